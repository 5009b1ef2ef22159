theorem d_Rea_init_0 : decode b_Rea_init 0 = .ok (.aload_n 0, 1) := by decide +kernel
theorem d_Rea_init_1 : decode b_Rea_init 1 = .ok (.invokespecial 1, 3) := by decide +kernel
theorem d_Rea_init_4 : decode b_Rea_init 4 = .ok (.aload_n 0, 1) := by decide +kernel
theorem d_Rea_init_5 : decode b_Rea_init 5 = .ok (.new 7, 3) := by decide +kernel
theorem d_Rea_init_8 : decode b_Rea_init 8 = .ok (.dup, 1) := by decide +kernel
theorem d_Rea_init_9 : decode b_Rea_init 9 = .ok (.invokespecial 9, 3) := by decide +kernel
theorem d_Rea_init_12 : decode b_Rea_init 12 = .ok (.putfield 10, 3) := by decide +kernel
theorem d_Rea_init_15 : decode b_Rea_init 15 = .ok (.aload_n 0, 1) := by decide +kernel
theorem d_Rea_init_16 : decode b_Rea_init 16 = .ok (.new 16, 3) := by decide +kernel
theorem d_Rea_init_19 : decode b_Rea_init 19 = .ok (.dup, 1) := by decide +kernel
theorem d_Rea_init_20 : decode b_Rea_init 20 = .ok (.invokespecial 18, 3) := by decide +kernel
theorem d_Rea_init_23 : decode b_Rea_init 23 = .ok (.putfield 19, 3) := by decide +kernel
theorem d_Rea_init_26 : decode b_Rea_init 26 = .ok (.aload_n 0, 1) := by decide +kernel
theorem d_Rea_init_27 : decode b_Rea_init 27 = .ok (.aload_n 0, 1) := by decide +kernel
theorem d_Rea_init_28 : decode b_Rea_init 28 = .ok (.getfield 10, 3) := by decide +kernel
theorem d_Rea_init_31 : decode b_Rea_init 31 = .ok (.getfield 23, 3) := by decide +kernel
theorem d_Rea_init_34 : decode b_Rea_init 34 = .ok (.putfield 27, 3) := by decide +kernel
theorem d_Rea_init_37 : decode b_Rea_init 37 = .ok (.aload_n 0, 1) := by decide +kernel
theorem d_Rea_init_38 : decode b_Rea_init 38 = .ok (.aload_n 0, 1) := by decide +kernel
theorem d_Rea_init_39 : decode b_Rea_init 39 = .ok (.getfield 19, 3) := by decide +kernel
theorem d_Rea_init_42 : decode b_Rea_init 42 = .ok (.getfield 28, 3) := by decide +kernel
theorem d_Rea_init_45 : decode b_Rea_init 45 = .ok (.putfield 32, 3) := by decide +kernel
theorem d_Rea_init_48 : decode b_Rea_init 48 = .ok (.aload_n 0, 1) := by decide +kernel
theorem d_Rea_init_49 : decode b_Rea_init 49 = .ok (.iconst 0, 1) := by decide +kernel
theorem d_Rea_init_50 : decode b_Rea_init 50 = .ok (.putfield 33, 3) := by decide +kernel
theorem d_Rea_init_53 : decode b_Rea_init 53 = .ok (.aload_n 0, 1) := by decide +kernel
theorem d_Rea_init_54 : decode b_Rea_init 54 = .ok (.lconst 0, 1) := by decide +kernel
theorem d_Rea_init_55 : decode b_Rea_init 55 = .ok (.putfield 37, 3) := by decide +kernel
theorem d_Rea_init_58 : decode b_Rea_init 58 = .ok (.aload_n 0, 1) := by decide +kernel
theorem d_Rea_init_59 : decode b_Rea_init 59 = .ok (.iconst 0, 1) := by decide +kernel
theorem d_Rea_init_60 : decode b_Rea_init 60 = .ok (.putfield 41, 3) := by decide +kernel
theorem d_Rea_init_63 : decode b_Rea_init 63 = .ok (.return_, 1) := by decide +kernel
set_option maxHeartbeats 4000000 in
set_option maxRecDepth 100000 in
theorem c_Big_init (l : Launch) (D : va_G) (E : evD) (h : Nat) : Cv (S := Nat × ClassId) l y_Big_init (wz y_Big_init b_Big_init 1 none) ({ frames := 1, cells := 1, slots := 96, locals := 20 }) D vcl (ev1 E) [.ref h] [] [(h, .inr (0, [.null, .int 0]))] 1 96 (fun _ : Nat × ClassId => True) (fun u : Nat × ClassId => [(u.2, .int)]) (fun u : Nat × ClassId => [(h, .inr (0, [.ref u.1, .int 0])), (u.1, .inl (u.2, 96, .inl (fun _ => 0)))]) := by
  have hev := ev1_ok E
  unfold Cv
  refine ct_of (y := y_Big_init) (av := [.ref h]) (cc := b_Big_init) (maxL := 1) (ret := none) (Qc := fun A => va_Qv (S := Nat × ClassId) (fun _ : Nat × ClassId => True) (fun u tS => ctB D vcl ((fun u : Nat × ClassId => [(u.2, .int)]) u) ((fun u : Nat × ClassId => [(h, .inr (0, [.ref u.1, .int 0])), (u.1, .inl (u.2, 96, .inl (fun _ => 0)))]) u) A tS) A) (by decide) rfl (Nat.le_of_ble_eq_true rfl) ?_
  intro p ee s m below meth cde ls A H locs hx hb hml hrt hlocks hown hin hts hA hP hK hD hS hE hl
  have hown : s.vm.findClass R_Big = some m.cls := hown
  have hts := wz_g hts
  have hl : lv_has ls 1 [(0, .ref h)] := hl
  refine lv_aload_n hx hb d_Big_init_0 rfl (lv_at hl 0 rfl) ?_
  refine W.objInit hx hb hown (hts _ kM_Big_1) (hts _ kI_object) (hts _ kC_object) rfl (by rw [hml]; exact hl.1) rfl d_Big_init_1 (Nat.le_of_ble_eq_true rfl) (Nat.le_of_ble_eq_true rfl) ?_
  refine W.eq (g2 := F0 m 4 ls []) rfl ?_
  refine lv_aload_n hx hb d_Big_init_4 rfl (lv_at hl 0 rfl) ?_
  refine lv_bipush (v := 96) hx hb d_Big_init_5 (by decide) ?_
  refine va_newa hx hb (atype := .int) (hts _ kA_int) (ty := .int) rfl hK hP hD hS hA (n := 96) (N' := 96) (a0 := (96, .inl (fun _ => 0))) (fun _ => rfl) (by decide) (by decide) (by decide) (Nat.le_of_ble_eq_true rfl) (Nat.le_of_ble_eq_true rfl) d_Big_init_7 (fun q1 cY2 H hK hP hD hS => ?_)
  have hP : va_P D vcl [(h, .inr (0, [.null, .int 0])), (q1, .inl (cY2, 96, .inl (fun _ => 0)))] H := hP
  have hD : va_D A [(h, .inr (0, [.null, .int 0])), (q1, .inl (cY2, 96, .inl (fun _ => 0)))] := hD
  have hK : va_K D vcl [(cY2, .int)] s := hK
  refine va_putF (D := D) (ci := 0) (v := .ref q1) (ty := .array .int) (C := R_Big) (T := F_Big) (N := 2) hx hb hts w_Big t_Big tk_Big n_Big hown hK hP hD hS 0 rfl rfl 0 (by decide) (hts _ kF_Big_9) (fun _ h9 => h9) rfl hin rfl (by decide +kernel) (rfl) (rfl) (Nat.le_of_ble_eq_true rfl) d_Big_init_9 (fun H locs hP hD hS => ?_)
  have hP : va_P D vcl [(h, .inr (0, [.ref q1, .int 0])), (q1, .inl (cY2, 96, .inl (fun _ => 0)))] H := hP
  have hD : va_D A [(h, .inr (0, [.ref q1, .int 0])), (q1, .inl (cY2, 96, .inl (fun _ => 0)))] := hD
  refine lv_aload_n hx hb d_Big_init_12 rfl (lv_at hl 0 rfl) ?_
  refine lv_iconst (v := 0) hx hb d_Big_init_13 (by decide) ?_
  refine va_put (D := D) (ci := 0) (v := .int 0) (ty := .int) (C := R_Big) (T := F_Big) (N := 2) hx hb hts w_Big t_Big tk_Big n_Big hown hK hP hD hS 0 rfl rfl 1 (by decide) (hts _ kF_Big_13) (fun _ h9 => h9) rfl (by decide +kernel) (rfl) (rfl) (Nat.le_of_ble_eq_true rfl) d_Big_init_14 (fun H locs hP hD hS => ?_)
  have hP : va_P D vcl [(h, .inr (0, [.ref q1, .int 0])), (q1, .inl (cY2, 96, .inl (fun _ => 0)))] H := hP
  have hD : va_D A [(h, .inr (0, [.ref q1, .int 0])), (q1, .inl (cY2, 96, .inl (fun _ => 0)))] := hD
  exact rt_v hx hb hrt hlocks ((q1, cY2)) (trivial) (hP.sub [0, 1] rfl) (hK.sub [0] rfl) (hD.sub [0, 1] (by decide) rfl) hS d_Big_init_17

set_option maxHeartbeats 4000000 in
set_option maxRecDepth 100000 in
theorem c_Fra_init (l : Launch) (D : va_G) (E : evD) (h : Nat) : Cv (S := (Nat × Nat × ClassId) × (Nat × Nat × ClassId)) l y_Fra_init (wz y_Fra_init b_Fra_init 1 none) ({ frames := 2, cells := 4, slots := 196, locals := 40 }) D vcl (ev1 E) [.ref h] [] [(h, .inr (2, [.null, .null]))] 4 196 (fun _ : (Nat × Nat × ClassId) × (Nat × Nat × ClassId) => True) (fun u : (Nat × Nat × ClassId) × (Nat × Nat × ClassId) => [(u.1.2.2, .int), (u.2.2.2, .int)]) (fun u : (Nat × Nat × ClassId) × (Nat × Nat × ClassId) => [(h, .inr (2, [.ref u.1.1, .ref u.2.1])), (u.1.1, .inr (0, [.ref u.1.2.1, .int 0])), (u.1.2.1, .inl (u.1.2.2, 96, .inl (fun _ => 0))), (u.2.1, .inr (0, [.ref u.2.2.1, .int 0])), (u.2.2.1, .inl (u.2.2.2, 96, .inl (fun _ => 0)))]) := by
  have hev := ev1_ok E
  unfold Cv
  refine ct_of (y := y_Fra_init) (av := [.ref h]) (cc := b_Fra_init) (maxL := 1) (ret := none) (Qc := fun A => va_Qv (S := (Nat × Nat × ClassId) × (Nat × Nat × ClassId)) (fun _ : (Nat × Nat × ClassId) × (Nat × Nat × ClassId) => True) (fun u tS => ctB D vcl ((fun u : (Nat × Nat × ClassId) × (Nat × Nat × ClassId) => [(u.1.2.2, .int), (u.2.2.2, .int)]) u) ((fun u : (Nat × Nat × ClassId) × (Nat × Nat × ClassId) => [(h, .inr (2, [.ref u.1.1, .ref u.2.1])), (u.1.1, .inr (0, [.ref u.1.2.1, .int 0])), (u.1.2.1, .inl (u.1.2.2, 96, .inl (fun _ => 0))), (u.2.1, .inr (0, [.ref u.2.2.1, .int 0])), (u.2.2.1, .inl (u.2.2.2, 96, .inl (fun _ => 0)))]) u) A tS) A) (by decide) rfl (Nat.le_of_ble_eq_true rfl) ?_
  intro p ee s m below meth cde ls A H locs hx hb hml hrt hlocks hown hin hts hA hP hK hD hS hE hl
  have hown : s.vm.findClass R_Fra = some m.cls := hown
  have hts := wz_g hts
  have hl : lv_has ls 1 [(0, .ref h)] := hl
  refine lv_aload_n hx hb d_Fra_init_0 rfl (lv_at hl 0 rfl) ?_
  refine W.objInit hx hb hown (hts _ kM_Fra_1) (hts _ kI_object) (hts _ kC_object) rfl (by rw [hml]; exact hl.1) rfl d_Fra_init_1 (Nat.le_of_ble_eq_true rfl) (Nat.le_of_ble_eq_true rfl) ?_
  refine W.eq (g2 := F0 m 4 ls []) rfl ?_
  refine lv_aload_n hx hb d_Fra_init_4 rfl (lv_at hl 0 rfl) ?_
  refine va_new (ci := 0) (fs := [.null, .int 0]) (C := R_Big) (T := F_Big) (N := 2) hx hb hts w_Big t_Big tk_Big hown (hts _ kL_Fra_7) (hts _ kH_Big) (hts _ kN_Big) hK hP hD hS hA rfl (fun j hj => by rcases (show j = 0 ∨ j = 1 by omega) with rfl | rfl <;> rfl) (Nat.le_of_ble_eq_true rfl) (Nat.le_of_ble_eq_true rfl) d_Fra_init_5 (fun q1 H hP hD hS => ?_)
  have hP : va_P D vcl [(h, .inr (2, [.null, .null])), (q1, .inr (0, [.null, .int 0]))] H := hP
  have hD : va_D A [(h, .inr (2, [.null, .null])), (q1, .inr (0, [.null, .int 0]))] := hD
  refine lv_dup hx hb d_Fra_init_8 rfl ?_
  refine ca_v [(h, .inr (2, [.null, .null]))] (va_runI (As := []) (rest := [.ref q1, .ref h]) ⟨hx, hb, hml, hown, hts⟩ (c_Big_init l D E q1 H.size) (xI 0 hts kC_Big_init kM_Fra_9 kI_Big_init kN_Big rfl rfl rfl (by decide +kernel) ⟨Nat.le_of_ble_eq_true rfl, Nat.le_of_ble_eq_true rfl⟩) ⟨ct_blind hev, ct_pre hev hP hK hD hS hA hE [1] rfl (by decide) [] rfl⟩ rfl rfl hl.1 rfl (lv_room (Nat.le_of_ble_eq_true rfl)) d_Fra_init_9 ⟨Nat.le_of_ble_eq_true rfl, Nat.le_of_ble_eq_true rfl⟩) hP hD hS hA [1] [0] rfl rfl (by decide) (by decide) (fun u H locs hw hP hD hS hK1 => ?_)
  obtain ⟨a2, cA2⟩ := u
  have hP : va_P D vcl [(h, .inr (2, [.null, .null])), (q1, .inr (0, [.ref a2, .int 0])), (a2, .inl (cA2, 96, .inl (fun _ => 0)))] H := hP
  have hD : va_D A [(h, .inr (2, [.null, .null])), (q1, .inr (0, [.ref a2, .int 0])), (a2, .inl (cA2, 96, .inl (fun _ => 0)))] := hD
  have hK := hK.app hK1
  have hK : va_K D vcl [(cA2, .int)] s := hK
  refine va_putF (D := D) (ci := 2) (v := .ref q1) (ty := .object "NearestReader$Big") (C := R_Fra) (T := F_Fra) (N := 2) hx hb hts w_Fra t_Fra tk_Fra n_Fra hown hK hP hD hS 0 rfl rfl 0 (by decide) (hts _ kF_Fra_10) (fun _ h9 => h9) rfl hin rfl (by decide +kernel) (rfl) (rfl) (Nat.le_of_ble_eq_true rfl) d_Fra_init_12 (fun H locs hP hD hS => ?_)
  have hP : va_P D vcl [(h, .inr (2, [.ref q1, .null])), (q1, .inr (0, [.ref a2, .int 0])), (a2, .inl (cA2, 96, .inl (fun _ => 0)))] H := hP
  have hD : va_D A [(h, .inr (2, [.ref q1, .null])), (q1, .inr (0, [.ref a2, .int 0])), (a2, .inl (cA2, 96, .inl (fun _ => 0)))] := hD
  refine lv_aload_n hx hb d_Fra_init_15 rfl (lv_at hl 0 rfl) ?_
  refine va_new (ci := 0) (fs := [.null, .int 0]) (C := R_Big) (T := F_Big) (N := 2) hx hb hts w_Big t_Big tk_Big hown (hts _ kL_Fra_7) (hts _ kH_Big) (hts _ kN_Big) hK hP hD hS hA rfl (fun j hj => by rcases (show j = 0 ∨ j = 1 by omega) with rfl | rfl <;> rfl) (Nat.le_of_ble_eq_true rfl) (Nat.le_of_ble_eq_true rfl) d_Fra_init_16 (fun q3 H hP hD hS => ?_)
  have hP : va_P D vcl [(h, .inr (2, [.ref q1, .null])), (q1, .inr (0, [.ref a2, .int 0])), (a2, .inl (cA2, 96, .inl (fun _ => 0))), (q3, .inr (0, [.null, .int 0]))] H := hP
  have hD : va_D A [(h, .inr (2, [.ref q1, .null])), (q1, .inr (0, [.ref a2, .int 0])), (a2, .inl (cA2, 96, .inl (fun _ => 0))), (q3, .inr (0, [.null, .int 0]))] := hD
  refine lv_dup hx hb d_Fra_init_19 rfl ?_
  refine ca_v [(h, .inr (2, [.ref q1, .null])), (q1, .inr (0, [.ref a2, .int 0])), (a2, .inl (cA2, 96, .inl (fun _ => 0)))] (va_runI (As := []) (rest := [.ref q3, .ref h]) ⟨hx, hb, hml, hown, hts⟩ (c_Big_init l D E q3 H.size) (xI 0 hts kC_Big_init kM_Fra_9 kI_Big_init kN_Big rfl rfl rfl (by decide +kernel) ⟨Nat.le_of_ble_eq_true rfl, Nat.le_of_ble_eq_true rfl⟩) ⟨ct_blind hev, ct_pre hev hP hK hD hS hA hE [3] rfl (by decide) [] rfl⟩ rfl rfl hl.1 rfl (lv_room (Nat.le_of_ble_eq_true rfl)) d_Fra_init_20 ⟨Nat.le_of_ble_eq_true rfl, Nat.le_of_ble_eq_true rfl⟩) hP hD hS hA [3] [0, 1, 2] rfl rfl (by decide) (by decide) (fun u H locs hw hP hD hS hK1 => ?_)
  obtain ⟨a4, cA4⟩ := u
  have hP : va_P D vcl [(h, .inr (2, [.ref q1, .null])), (q1, .inr (0, [.ref a2, .int 0])), (a2, .inl (cA2, 96, .inl (fun _ => 0))), (q3, .inr (0, [.ref a4, .int 0])), (a4, .inl (cA4, 96, .inl (fun _ => 0)))] H := hP
  have hD : va_D A [(h, .inr (2, [.ref q1, .null])), (q1, .inr (0, [.ref a2, .int 0])), (a2, .inl (cA2, 96, .inl (fun _ => 0))), (q3, .inr (0, [.ref a4, .int 0])), (a4, .inl (cA4, 96, .inl (fun _ => 0)))] := hD
  have hK := hK.app hK1
  have hK : va_K D vcl [(cA2, .int), (cA4, .int)] s := hK
  refine va_putF (D := D) (ci := 2) (v := .ref q3) (ty := .object "NearestReader$Big") (C := R_Fra) (T := F_Fra) (N := 2) hx hb hts w_Fra t_Fra tk_Fra n_Fra hown hK hP hD hS 0 rfl rfl 1 (by decide) (hts _ kF_Fra_16) (fun _ h9 => h9) rfl hin rfl (by decide +kernel) (rfl) (rfl) (Nat.le_of_ble_eq_true rfl) d_Fra_init_23 (fun H locs hP hD hS => ?_)
  have hP : va_P D vcl [(h, .inr (2, [.ref q1, .ref q3])), (q1, .inr (0, [.ref a2, .int 0])), (a2, .inl (cA2, 96, .inl (fun _ => 0))), (q3, .inr (0, [.ref a4, .int 0])), (a4, .inl (cA4, 96, .inl (fun _ => 0)))] H := hP
  have hD : va_D A [(h, .inr (2, [.ref q1, .ref q3])), (q1, .inr (0, [.ref a2, .int 0])), (a2, .inl (cA2, 96, .inl (fun _ => 0))), (q3, .inr (0, [.ref a4, .int 0])), (a4, .inl (cA4, 96, .inl (fun _ => 0)))] := hD
  exact rt_v hx hb hrt hlocks (((q1, a2, cA2), (q3, a4, cA4))) (trivial) (hP.sub [0, 1, 2, 3, 4] rfl) (hK.sub [0, 1] rfl) (hD.sub [0, 1, 2, 3, 4] (by decide) rfl) hS d_Fra_init_26

set_option maxHeartbeats 4000000 in
set_option maxRecDepth 100000 in
theorem c_Num_init (l : Launch) (D : va_G) (E : evD) (h : Nat) : Cv (S := Nat × ClassId) l y_Num_init (wz y_Num_init b_Num_init 1 none) ({ frames := 1, cells := 1, slots := 2400, locals := 20 }) D vcl (ev1 E) [.ref h] [] [(h, .inr (3, [.null, .int 0, .int 0, .int 0, .int 0, .int 0, .int 0, .int 0]))] 1 2400 (fun _ : Nat × ClassId => True) (fun u : Nat × ClassId => [(u.2, .char)]) (fun u : Nat × ClassId => [(h, .inr (3, [.ref u.1, .int 0, .int 0, .int 0, .int 0, .int 0, .int 0, .int 0])), (u.1, .inl (u.2, 2400, .inl (fun _ => 0)))]) := by
  have hev := ev1_ok E
  unfold Cv
  refine ct_of (y := y_Num_init) (av := [.ref h]) (cc := b_Num_init) (maxL := 1) (ret := none) (Qc := fun A => va_Qv (S := Nat × ClassId) (fun _ : Nat × ClassId => True) (fun u tS => ctB D vcl ((fun u : Nat × ClassId => [(u.2, .char)]) u) ((fun u : Nat × ClassId => [(h, .inr (3, [.ref u.1, .int 0, .int 0, .int 0, .int 0, .int 0, .int 0, .int 0])), (u.1, .inl (u.2, 2400, .inl (fun _ => 0)))]) u) A tS) A) (by decide) rfl (Nat.le_of_ble_eq_true rfl) ?_
  intro p ee s m below meth cde ls A H locs hx hb hml hrt hlocks hown hin hts hA hP hK hD hS hE hl
  have hown : s.vm.findClass R_Num = some m.cls := hown
  have hts := wz_g hts
  have hl : lv_has ls 1 [(0, .ref h)] := hl
  refine lv_aload_n hx hb d_Num_init_0 rfl (lv_at hl 0 rfl) ?_
  refine W.objInit hx hb hown (hts _ kM_Num_3) (hts _ kI_object) (hts _ kC_object) rfl (by rw [hml]; exact hl.1) rfl d_Num_init_1 (Nat.le_of_ble_eq_true rfl) (Nat.le_of_ble_eq_true rfl) ?_
  refine W.eq (g2 := F0 m 4 ls []) rfl ?_
  refine lv_aload_n hx hb d_Num_init_4 rfl (lv_at hl 0 rfl) ?_
  refine lv_sipush (v := 2400) hx hb d_Num_init_5 (by decide) ?_
  refine va_newa hx hb (atype := .char) (hts _ kA_char) (ty := .char) rfl hK hP hD hS hA (n := 2400) (N' := 2400) (a0 := (2400, .inl (fun _ => 0))) (fun _ => rfl) (by decide) (by decide) (by decide) (Nat.le_of_ble_eq_true rfl) (Nat.le_of_ble_eq_true rfl) d_Num_init_8 (fun q1 cY2 H hK hP hD hS => ?_)
  have hP : va_P D vcl [(h, .inr (3, [.null, .int 0, .int 0, .int 0, .int 0, .int 0, .int 0, .int 0])), (q1, .inl (cY2, 2400, .inl (fun _ => 0)))] H := hP
  have hD : va_D A [(h, .inr (3, [.null, .int 0, .int 0, .int 0, .int 0, .int 0, .int 0, .int 0])), (q1, .inl (cY2, 2400, .inl (fun _ => 0)))] := hD
  have hK : va_K D vcl [(cY2, .char)] s := hK
  refine va_putF (D := D) (ci := 3) (v := .ref q1) (ty := .array .char) (C := R_Num) (T := F_Num) (N := 8) hx hb hts w_Num t_Num tk_Num n_Num hown hK hP hD hS 0 rfl rfl 0 (by decide) (hts _ kF_Num_9) (fun _ h9 => h9) rfl hin rfl (by decide +kernel) (rfl) (rfl) (Nat.le_of_ble_eq_true rfl) d_Num_init_10 (fun H locs hP hD hS => ?_)
  have hP : va_P D vcl [(h, .inr (3, [.ref q1, .int 0, .int 0, .int 0, .int 0, .int 0, .int 0, .int 0])), (q1, .inl (cY2, 2400, .inl (fun _ => 0)))] H := hP
  have hD : va_D A [(h, .inr (3, [.ref q1, .int 0, .int 0, .int 0, .int 0, .int 0, .int 0, .int 0])), (q1, .inl (cY2, 2400, .inl (fun _ => 0)))] := hD
  exact rt_v hx hb hrt hlocks ((q1, cY2)) (trivial) (hP.sub [0, 1] rfl) (hK.sub [0] rfl) (hD.sub [0, 1] (by decide) rfl) hS d_Num_init_13

set_option maxHeartbeats 4000000 in
set_option maxRecDepth 100000 in
theorem c_Dec_init (l : Launch) (D : va_G) (E : evD) (h : Nat) : Cv (S := Nat × ((Nat × Nat × ClassId) × (Nat × Nat × ClassId))) l y_Dec_init (wz y_Dec_init b_Dec_init 1 none) ({ frames := 3, cells := 5, slots := 198, locals := 60 }) D vcl (ev1 E) [.ref h] [] [(h, .inr (1, [.null, .int 0, .int 0, .int 0, .int 0]))] 5 198 (fun _ : Nat × ((Nat × Nat × ClassId) × (Nat × Nat × ClassId)) => True) (fun u : Nat × ((Nat × Nat × ClassId) × (Nat × Nat × ClassId)) => [(u.2.1.2.2, .int), (u.2.2.2.2, .int)]) (fun u : Nat × ((Nat × Nat × ClassId) × (Nat × Nat × ClassId)) => [(h, .inr (1, [.ref u.1, .int 0, .int 0, .int 0, .int 0])), (u.1, .inr (2, [.ref u.2.1.1, .ref u.2.2.1])), (u.2.1.1, .inr (0, [.ref u.2.1.2.1, .int 0])), (u.2.1.2.1, .inl (u.2.1.2.2, 96, .inl (fun _ => 0))), (u.2.2.1, .inr (0, [.ref u.2.2.2.1, .int 0])), (u.2.2.2.1, .inl (u.2.2.2.2, 96, .inl (fun _ => 0)))]) := by
  have hev := ev1_ok E
  unfold Cv
  refine ct_of (y := y_Dec_init) (av := [.ref h]) (cc := b_Dec_init) (maxL := 1) (ret := none) (Qc := fun A => va_Qv (S := Nat × ((Nat × Nat × ClassId) × (Nat × Nat × ClassId))) (fun _ : Nat × ((Nat × Nat × ClassId) × (Nat × Nat × ClassId)) => True) (fun u tS => ctB D vcl ((fun u : Nat × ((Nat × Nat × ClassId) × (Nat × Nat × ClassId)) => [(u.2.1.2.2, .int), (u.2.2.2.2, .int)]) u) ((fun u : Nat × ((Nat × Nat × ClassId) × (Nat × Nat × ClassId)) => [(h, .inr (1, [.ref u.1, .int 0, .int 0, .int 0, .int 0])), (u.1, .inr (2, [.ref u.2.1.1, .ref u.2.2.1])), (u.2.1.1, .inr (0, [.ref u.2.1.2.1, .int 0])), (u.2.1.2.1, .inl (u.2.1.2.2, 96, .inl (fun _ => 0))), (u.2.2.1, .inr (0, [.ref u.2.2.2.1, .int 0])), (u.2.2.2.1, .inl (u.2.2.2.2, 96, .inl (fun _ => 0)))]) u) A tS) A) (by decide) rfl (Nat.le_of_ble_eq_true rfl) ?_
  intro p ee s m below meth cde ls A H locs hx hb hml hrt hlocks hown hin hts hA hP hK hD hS hE hl
  have hown : s.vm.findClass R_Dec = some m.cls := hown
  have hts := wz_g hts
  have hl : lv_has ls 1 [(0, .ref h)] := hl
  refine lv_aload_n hx hb d_Dec_init_0 rfl (lv_at hl 0 rfl) ?_
  refine W.objInit hx hb hown (hts _ kM_Dec_1) (hts _ kI_object) (hts _ kC_object) rfl (by rw [hml]; exact hl.1) rfl d_Dec_init_1 (Nat.le_of_ble_eq_true rfl) (Nat.le_of_ble_eq_true rfl) ?_
  refine W.eq (g2 := F0 m 4 ls []) rfl ?_
  refine lv_aload_n hx hb d_Dec_init_4 rfl (lv_at hl 0 rfl) ?_
  refine va_new (ci := 2) (fs := [.null, .null]) (C := R_Fra) (T := F_Fra) (N := 2) hx hb hts w_Fra t_Fra tk_Fra hown (hts _ kL_Dec_7) (hts _ kH_Fra) (hts _ kN_Fra) hK hP hD hS hA rfl (fun j hj => by rcases (show j = 0 ∨ j = 1 by omega) with rfl | rfl <;> rfl) (Nat.le_of_ble_eq_true rfl) (Nat.le_of_ble_eq_true rfl) d_Dec_init_5 (fun q1 H hP hD hS => ?_)
  have hP : va_P D vcl [(h, .inr (1, [.null, .int 0, .int 0, .int 0, .int 0])), (q1, .inr (2, [.null, .null]))] H := hP
  have hD : va_D A [(h, .inr (1, [.null, .int 0, .int 0, .int 0, .int 0])), (q1, .inr (2, [.null, .null]))] := hD
  refine lv_dup hx hb d_Dec_init_8 rfl ?_
  refine ca_v [(h, .inr (1, [.null, .int 0, .int 0, .int 0, .int 0]))] (va_runI (As := []) (rest := [.ref q1, .ref h]) ⟨hx, hb, hml, hown, hts⟩ (c_Fra_init l D E q1 H.size) (xI 0 hts kC_Fra_init kM_Dec_9 kI_Fra_init kN_Fra rfl rfl rfl (by decide +kernel) ⟨Nat.le_of_ble_eq_true rfl, Nat.le_of_ble_eq_true rfl⟩) ⟨ct_blind hev, ct_pre hev hP hK hD hS hA hE [1] rfl (by decide) [] rfl⟩ rfl rfl hl.1 rfl (lv_room (Nat.le_of_ble_eq_true rfl)) d_Dec_init_9 ⟨Nat.le_of_ble_eq_true rfl, Nat.le_of_ble_eq_true rfl⟩) hP hD hS hA [1] [0] rfl rfl (by decide) (by decide) (fun u H locs hw hP hD hS hK1 => ?_)
  obtain ⟨⟨t, ta, cA⟩, ⟨b, ba, cB⟩⟩ := u
  have hP : va_P D vcl [(h, .inr (1, [.null, .int 0, .int 0, .int 0, .int 0])), (q1, .inr (2, [.ref t, .ref b])), (t, .inr (0, [.ref ta, .int 0])), (ta, .inl (cA, 96, .inl (fun _ => 0))), (b, .inr (0, [.ref ba, .int 0])), (ba, .inl (cB, 96, .inl (fun _ => 0)))] H := hP
  have hD : va_D A [(h, .inr (1, [.null, .int 0, .int 0, .int 0, .int 0])), (q1, .inr (2, [.ref t, .ref b])), (t, .inr (0, [.ref ta, .int 0])), (ta, .inl (cA, 96, .inl (fun _ => 0))), (b, .inr (0, [.ref ba, .int 0])), (ba, .inl (cB, 96, .inl (fun _ => 0)))] := hD
  have hK := hK.app hK1
  have hK : va_K D vcl [(cA, .int), (cB, .int)] s := hK
  refine va_putF (D := D) (ci := 1) (v := .ref q1) (ty := .object "NearestReader$Fraction") (C := R_Dec) (T := F_Dec) (N := 5) hx hb hts w_Dec t_Dec tk_Dec n_Dec hown hK hP hD hS 0 rfl rfl 0 (by decide) (hts _ kF_Dec_10) (fun _ h9 => h9) rfl hin rfl (by decide +kernel) (rfl) (rfl) (Nat.le_of_ble_eq_true rfl) d_Dec_init_12 (fun H locs hP hD hS => ?_)
  have hP : va_P D vcl [(h, .inr (1, [.ref q1, .int 0, .int 0, .int 0, .int 0])), (q1, .inr (2, [.ref t, .ref b])), (t, .inr (0, [.ref ta, .int 0])), (ta, .inl (cA, 96, .inl (fun _ => 0))), (b, .inr (0, [.ref ba, .int 0])), (ba, .inl (cB, 96, .inl (fun _ => 0)))] H := hP
  have hD : va_D A [(h, .inr (1, [.ref q1, .int 0, .int 0, .int 0, .int 0])), (q1, .inr (2, [.ref t, .ref b])), (t, .inr (0, [.ref ta, .int 0])), (ta, .inl (cA, 96, .inl (fun _ => 0))), (b, .inr (0, [.ref ba, .int 0])), (ba, .inl (cB, 96, .inl (fun _ => 0)))] := hD
  exact rt_v hx hb hrt hlocks ((q1, (t, ta, cA), (b, ba, cB))) (trivial) (hP.sub [0, 1, 2, 3, 4, 5] rfl) (hK.sub [0, 1] rfl) (hD.sub [0, 1, 2, 3, 4, 5] (by decide) rfl) hS d_Dec_init_15

set_option maxHeartbeats 4000000 in
set_option maxRecDepth 100000 in
theorem c_Rea_init (l : Launch) (D : va_G) (E : evD) (r : Nat) : Cv (S := (Nat × Nat × Nat × Nat) × (Nat × Nat × Nat × Nat) × (ClassId × ClassId × ClassId)) l y_Rea_init (wz y_Rea_init b_Rea_init 1 none) ({ frames := 4, cells := 8, slots := 2611, locals := 80 }) D vcl (ev1 E) [.ref r] [] [(r, .inr (4, [.null, .null, .null, .null, .int 0, .long 0, .int 0]))] 8 2611 (fun _ : (Nat × Nat × Nat × Nat) × (Nat × Nat × Nat × Nat) × (ClassId × ClassId × ClassId) => True) (fun u : (Nat × Nat × Nat × Nat) × (Nat × Nat × Nat × Nat) × (ClassId × ClassId × ClassId) => [(u.2.2.1, .char), (u.2.2.2.1, .int), (u.2.2.2.2, .int)]) (fun u : (Nat × Nat × Nat × Nat) × (Nat × Nat × Nat × Nat) × (ClassId × ClassId × ClassId) => [(r, .inr (4, [.ref u.1.1, .ref u.1.2.1, .ref u.1.2.2.1, .ref u.1.2.2.2, .int 0, .long 0, .int 0])), (u.1.1, .inl (u.2.2.1, 2400, .inl (fun _ => 0))), (u.1.2.1, .inr (3, [.ref u.1.1, .int 0, .int 0, .int 0, .int 0, .int 0, .int 0, .int 0])), (u.1.2.2.1, .inr (1, [.ref u.1.2.2.2, .int 0, .int 0, .int 0, .int 0])), (u.1.2.2.2, .inr (2, [.ref u.2.1.1, .ref u.2.1.2.2.1])), (u.2.1.1, .inr (0, [.ref u.2.1.2.1, .int 0])), (u.2.1.2.1, .inl (u.2.2.2.1, 96, .inl (fun _ => 0))), (u.2.1.2.2.1, .inr (0, [.ref u.2.1.2.2.2, .int 0])), (u.2.1.2.2.2, .inl (u.2.2.2.2, 96, .inl (fun _ => 0)))]) := by
  have hev := ev1_ok E
  unfold Cv
  refine ct_of (y := y_Rea_init) (av := [.ref r]) (cc := b_Rea_init) (maxL := 1) (ret := none) (Qc := fun A => va_Qv (S := (Nat × Nat × Nat × Nat) × (Nat × Nat × Nat × Nat) × (ClassId × ClassId × ClassId)) (fun _ : (Nat × Nat × Nat × Nat) × (Nat × Nat × Nat × Nat) × (ClassId × ClassId × ClassId) => True) (fun u tS => ctB D vcl ((fun u : (Nat × Nat × Nat × Nat) × (Nat × Nat × Nat × Nat) × (ClassId × ClassId × ClassId) => [(u.2.2.1, .char), (u.2.2.2.1, .int), (u.2.2.2.2, .int)]) u) ((fun u : (Nat × Nat × Nat × Nat) × (Nat × Nat × Nat × Nat) × (ClassId × ClassId × ClassId) => [(r, .inr (4, [.ref u.1.1, .ref u.1.2.1, .ref u.1.2.2.1, .ref u.1.2.2.2, .int 0, .long 0, .int 0])), (u.1.1, .inl (u.2.2.1, 2400, .inl (fun _ => 0))), (u.1.2.1, .inr (3, [.ref u.1.1, .int 0, .int 0, .int 0, .int 0, .int 0, .int 0, .int 0])), (u.1.2.2.1, .inr (1, [.ref u.1.2.2.2, .int 0, .int 0, .int 0, .int 0])), (u.1.2.2.2, .inr (2, [.ref u.2.1.1, .ref u.2.1.2.2.1])), (u.2.1.1, .inr (0, [.ref u.2.1.2.1, .int 0])), (u.2.1.2.1, .inl (u.2.2.2.1, 96, .inl (fun _ => 0))), (u.2.1.2.2.1, .inr (0, [.ref u.2.1.2.2.2, .int 0])), (u.2.1.2.2.2, .inl (u.2.2.2.2, 96, .inl (fun _ => 0)))]) u) A tS) A) (by decide) rfl (Nat.le_of_ble_eq_true rfl) ?_
  intro p ee s m below meth cde ls A H locs hx hb hml hrt hlocks hown hin hts hA hP hK hD hS hE hl
  have hown : s.vm.findClass R_Rea = some m.cls := hown
  have hts := wz_g hts
  have hl : lv_has ls 1 [(0, .ref r)] := hl
  refine lv_aload_n hx hb d_Rea_init_0 rfl (lv_at hl 0 rfl) ?_
  refine W.objInit hx hb hown (hts _ kM_Rea_1) (hts _ kI_object) (hts _ kC_object) rfl (by rw [hml]; exact hl.1) rfl d_Rea_init_1 (Nat.le_of_ble_eq_true rfl) (Nat.le_of_ble_eq_true rfl) ?_
  refine W.eq (g2 := F0 m 4 ls []) rfl ?_
  refine lv_aload_n hx hb d_Rea_init_4 rfl (lv_at hl 0 rfl) ?_
  refine va_new (ci := 3) (fs := [.null, .int 0, .int 0, .int 0, .int 0, .int 0, .int 0, .int 0]) (C := R_Num) (T := F_Num) (N := 8) hx hb hts w_Num t_Num tk_Num hown (hts _ kL_Rea_7) (hts _ kH_Num) (hts _ kN_Num) hK hP hD hS hA rfl (fun j hj => by rcases (show j = 0 ∨ j = 1 ∨ j = 2 ∨ j = 3 ∨ j = 4 ∨ j = 5 ∨ j = 6 ∨ j = 7 by omega) with rfl | rfl | rfl | rfl | rfl | rfl | rfl | rfl <;> rfl) (Nat.le_of_ble_eq_true rfl) (Nat.le_of_ble_eq_true rfl) d_Rea_init_5 (fun q1 H hP hD hS => ?_)
  have hP : va_P D vcl [(r, .inr (4, [.null, .null, .null, .null, .int 0, .long 0, .int 0])), (q1, .inr (3, [.null, .int 0, .int 0, .int 0, .int 0, .int 0, .int 0, .int 0]))] H := hP
  have hD : va_D A [(r, .inr (4, [.null, .null, .null, .null, .int 0, .long 0, .int 0])), (q1, .inr (3, [.null, .int 0, .int 0, .int 0, .int 0, .int 0, .int 0, .int 0]))] := hD
  refine lv_dup hx hb d_Rea_init_8 rfl ?_
  refine ca_v [(r, .inr (4, [.null, .null, .null, .null, .int 0, .long 0, .int 0]))] (va_runI (As := []) (rest := [.ref q1, .ref r]) ⟨hx, hb, hml, hown, hts⟩ (c_Num_init l D E q1 H.size) (xI 0 hts kC_Num_init kM_Rea_9 kI_Num_init kN_Num rfl rfl rfl (by decide +kernel) ⟨Nat.le_of_ble_eq_true rfl, Nat.le_of_ble_eq_true rfl⟩) ⟨ct_blind hev, ct_pre hev hP hK hD hS hA hE [1] rfl (by decide) [] rfl⟩ rfl rfl hl.1 rfl (lv_room (Nat.le_of_ble_eq_true rfl)) d_Rea_init_9 ⟨Nat.le_of_ble_eq_true rfl, Nat.le_of_ble_eq_true rfl⟩) hP hD hS hA [1] [0] rfl rfl (by decide) (by decide) (fun u H locs hw hP hD hS hK1 => ?_)
  obtain ⟨x, cC⟩ := u
  have hP : va_P D vcl [(r, .inr (4, [.null, .null, .null, .null, .int 0, .long 0, .int 0])), (q1, .inr (3, [.ref x, .int 0, .int 0, .int 0, .int 0, .int 0, .int 0, .int 0])), (x, .inl (cC, 2400, .inl (fun _ => 0)))] H := hP
  have hD : va_D A [(r, .inr (4, [.null, .null, .null, .null, .int 0, .long 0, .int 0])), (q1, .inr (3, [.ref x, .int 0, .int 0, .int 0, .int 0, .int 0, .int 0, .int 0])), (x, .inl (cC, 2400, .inl (fun _ => 0)))] := hD
  have hK := hK.app hK1
  have hK : va_K D vcl [(cC, .char)] s := hK
  refine va_putF (D := D) (ci := 4) (v := .ref q1) (ty := .object "NearestReader$Numeral") (C := R_Rea) (T := F_Rea) (N := 7) hx hb hts w_Rea t_Rea tk_Rea n_Rea hown hK hP hD hS 0 rfl rfl 1 (by decide) (hts _ kF_Rea_10) (fun _ h9 => h9) rfl hin rfl (by decide +kernel) (rfl) (rfl) (Nat.le_of_ble_eq_true rfl) d_Rea_init_12 (fun H locs hP hD hS => ?_)
  have hP : va_P D vcl [(r, .inr (4, [.null, .ref q1, .null, .null, .int 0, .long 0, .int 0])), (q1, .inr (3, [.ref x, .int 0, .int 0, .int 0, .int 0, .int 0, .int 0, .int 0])), (x, .inl (cC, 2400, .inl (fun _ => 0)))] H := hP
  have hD : va_D A [(r, .inr (4, [.null, .ref q1, .null, .null, .int 0, .long 0, .int 0])), (q1, .inr (3, [.ref x, .int 0, .int 0, .int 0, .int 0, .int 0, .int 0, .int 0])), (x, .inl (cC, 2400, .inl (fun _ => 0)))] := hD
  refine lv_aload_n hx hb d_Rea_init_15 rfl (lv_at hl 0 rfl) ?_
  refine va_new (ci := 1) (fs := [.null, .int 0, .int 0, .int 0, .int 0]) (C := R_Dec) (T := F_Dec) (N := 5) hx hb hts w_Dec t_Dec tk_Dec hown (hts _ kL_Rea_16) (hts _ kH_Dec) (hts _ kN_Dec) hK hP hD hS hA rfl (fun j hj => by rcases (show j = 0 ∨ j = 1 ∨ j = 2 ∨ j = 3 ∨ j = 4 by omega) with rfl | rfl | rfl | rfl | rfl <;> rfl) (Nat.le_of_ble_eq_true rfl) (Nat.le_of_ble_eq_true rfl) d_Rea_init_16 (fun q2 H hP hD hS => ?_)
  have hP : va_P D vcl [(r, .inr (4, [.null, .ref q1, .null, .null, .int 0, .long 0, .int 0])), (q1, .inr (3, [.ref x, .int 0, .int 0, .int 0, .int 0, .int 0, .int 0, .int 0])), (x, .inl (cC, 2400, .inl (fun _ => 0))), (q2, .inr (1, [.null, .int 0, .int 0, .int 0, .int 0]))] H := hP
  have hD : va_D A [(r, .inr (4, [.null, .ref q1, .null, .null, .int 0, .long 0, .int 0])), (q1, .inr (3, [.ref x, .int 0, .int 0, .int 0, .int 0, .int 0, .int 0, .int 0])), (x, .inl (cC, 2400, .inl (fun _ => 0))), (q2, .inr (1, [.null, .int 0, .int 0, .int 0, .int 0]))] := hD
  refine lv_dup hx hb d_Rea_init_19 rfl ?_
  refine ca_v [(r, .inr (4, [.null, .ref q1, .null, .null, .int 0, .long 0, .int 0])), (q1, .inr (3, [.ref x, .int 0, .int 0, .int 0, .int 0, .int 0, .int 0, .int 0])), (x, .inl (cC, 2400, .inl (fun _ => 0)))] (va_runI (As := []) (rest := [.ref q2, .ref r]) ⟨hx, hb, hml, hown, hts⟩ (c_Dec_init l D E q2 H.size) (xI 0 hts kC_Dec_init kM_Rea_18 kI_Dec_init kN_Dec rfl rfl rfl (by decide +kernel) ⟨Nat.le_of_ble_eq_true rfl, Nat.le_of_ble_eq_true rfl⟩) ⟨ct_blind hev, ct_pre hev hP hK hD hS hA hE [3] rfl (by decide) [] rfl⟩ rfl rfl hl.1 rfl (lv_room (Nat.le_of_ble_eq_true rfl)) d_Rea_init_20 ⟨Nat.le_of_ble_eq_true rfl, Nat.le_of_ble_eq_true rfl⟩) hP hD hS hA [3] [0, 1, 2] rfl rfl (by decide) (by decide) (fun u H locs hw hP hD hS hK1 => ?_)
  obtain ⟨q, ⟨t, ta, cA⟩, ⟨b, ba, cB⟩⟩ := u
  have hP : va_P D vcl [(r, .inr (4, [.null, .ref q1, .null, .null, .int 0, .long 0, .int 0])), (q1, .inr (3, [.ref x, .int 0, .int 0, .int 0, .int 0, .int 0, .int 0, .int 0])), (x, .inl (cC, 2400, .inl (fun _ => 0))), (q2, .inr (1, [.ref q, .int 0, .int 0, .int 0, .int 0])), (q, .inr (2, [.ref t, .ref b])), (t, .inr (0, [.ref ta, .int 0])), (ta, .inl (cA, 96, .inl (fun _ => 0))), (b, .inr (0, [.ref ba, .int 0])), (ba, .inl (cB, 96, .inl (fun _ => 0)))] H := hP
  have hD : va_D A [(r, .inr (4, [.null, .ref q1, .null, .null, .int 0, .long 0, .int 0])), (q1, .inr (3, [.ref x, .int 0, .int 0, .int 0, .int 0, .int 0, .int 0, .int 0])), (x, .inl (cC, 2400, .inl (fun _ => 0))), (q2, .inr (1, [.ref q, .int 0, .int 0, .int 0, .int 0])), (q, .inr (2, [.ref t, .ref b])), (t, .inr (0, [.ref ta, .int 0])), (ta, .inl (cA, 96, .inl (fun _ => 0))), (b, .inr (0, [.ref ba, .int 0])), (ba, .inl (cB, 96, .inl (fun _ => 0)))] := hD
  have hK := hK.app hK1
  have hK : va_K D vcl [(cC, .char), (cA, .int), (cB, .int)] s := hK
  refine va_putF (D := D) (ci := 4) (v := .ref q2) (ty := .object "NearestReader$Decimal") (C := R_Rea) (T := F_Rea) (N := 7) hx hb hts w_Rea t_Rea tk_Rea n_Rea hown hK hP hD hS 0 rfl rfl 2 (by decide) (hts _ kF_Rea_19) (fun _ h9 => h9) rfl hin rfl (by decide +kernel) (rfl) (rfl) (Nat.le_of_ble_eq_true rfl) d_Rea_init_23 (fun H locs hP hD hS => ?_)
  have hP : va_P D vcl [(r, .inr (4, [.null, .ref q1, .ref q2, .null, .int 0, .long 0, .int 0])), (q1, .inr (3, [.ref x, .int 0, .int 0, .int 0, .int 0, .int 0, .int 0, .int 0])), (x, .inl (cC, 2400, .inl (fun _ => 0))), (q2, .inr (1, [.ref q, .int 0, .int 0, .int 0, .int 0])), (q, .inr (2, [.ref t, .ref b])), (t, .inr (0, [.ref ta, .int 0])), (ta, .inl (cA, 96, .inl (fun _ => 0))), (b, .inr (0, [.ref ba, .int 0])), (ba, .inl (cB, 96, .inl (fun _ => 0)))] H := hP
  have hD : va_D A [(r, .inr (4, [.null, .ref q1, .ref q2, .null, .int 0, .long 0, .int 0])), (q1, .inr (3, [.ref x, .int 0, .int 0, .int 0, .int 0, .int 0, .int 0, .int 0])), (x, .inl (cC, 2400, .inl (fun _ => 0))), (q2, .inr (1, [.ref q, .int 0, .int 0, .int 0, .int 0])), (q, .inr (2, [.ref t, .ref b])), (t, .inr (0, [.ref ta, .int 0])), (ta, .inl (cA, 96, .inl (fun _ => 0))), (b, .inr (0, [.ref ba, .int 0])), (ba, .inl (cB, 96, .inl (fun _ => 0)))] := hD
  refine lv_aload_n hx hb d_Rea_init_26 rfl (lv_at hl 0 rfl) ?_
  refine lv_aload_n hx hb d_Rea_init_27 rfl (lv_at hl 0 rfl) ?_
  refine va_get (D := D) (ci := 4) (v := .ref q1) (C := R_Rea) (T := F_Rea) (N := 7) hx hb hts w_Rea hown hK hP 0 rfl rfl 1 (by decide) (hts _ kF_Rea_10) (fun _ h9 => h9) rfl d_Rea_init_28 ?_
  refine va_get (D := D) (ci := 3) (v := .ref x) (C := R_Num) (T := F_Num) (N := 8) hx hb hts w_Num hown hK hP 1 rfl rfl 0 (by decide) (hts _ kF_Rea_23) (fun _ h9 => h9) rfl d_Rea_init_31 ?_
  refine va_putF (D := D) (ci := 4) (v := .ref x) (ty := .array .char) (C := R_Rea) (T := F_Rea) (N := 7) hx hb hts w_Rea t_Rea tk_Rea n_Rea hown hK hP hD hS 0 rfl rfl 0 (by decide) (hts _ kF_Rea_27) (fun _ h9 => h9) rfl hin rfl (by decide +kernel) (rfl) (rfl) (Nat.le_of_ble_eq_true rfl) d_Rea_init_34 (fun H locs hP hD hS => ?_)
  have hP : va_P D vcl [(r, .inr (4, [.ref x, .ref q1, .ref q2, .null, .int 0, .long 0, .int 0])), (q1, .inr (3, [.ref x, .int 0, .int 0, .int 0, .int 0, .int 0, .int 0, .int 0])), (x, .inl (cC, 2400, .inl (fun _ => 0))), (q2, .inr (1, [.ref q, .int 0, .int 0, .int 0, .int 0])), (q, .inr (2, [.ref t, .ref b])), (t, .inr (0, [.ref ta, .int 0])), (ta, .inl (cA, 96, .inl (fun _ => 0))), (b, .inr (0, [.ref ba, .int 0])), (ba, .inl (cB, 96, .inl (fun _ => 0)))] H := hP
  have hD : va_D A [(r, .inr (4, [.ref x, .ref q1, .ref q2, .null, .int 0, .long 0, .int 0])), (q1, .inr (3, [.ref x, .int 0, .int 0, .int 0, .int 0, .int 0, .int 0, .int 0])), (x, .inl (cC, 2400, .inl (fun _ => 0))), (q2, .inr (1, [.ref q, .int 0, .int 0, .int 0, .int 0])), (q, .inr (2, [.ref t, .ref b])), (t, .inr (0, [.ref ta, .int 0])), (ta, .inl (cA, 96, .inl (fun _ => 0))), (b, .inr (0, [.ref ba, .int 0])), (ba, .inl (cB, 96, .inl (fun _ => 0)))] := hD
  refine lv_aload_n hx hb d_Rea_init_37 rfl (lv_at hl 0 rfl) ?_
  refine lv_aload_n hx hb d_Rea_init_38 rfl (lv_at hl 0 rfl) ?_
  refine va_get (D := D) (ci := 4) (v := .ref q2) (C := R_Rea) (T := F_Rea) (N := 7) hx hb hts w_Rea hown hK hP 0 rfl rfl 2 (by decide) (hts _ kF_Rea_19) (fun _ h9 => h9) rfl d_Rea_init_39 ?_
  refine va_get (D := D) (ci := 1) (v := .ref q) (C := R_Dec) (T := F_Dec) (N := 5) hx hb hts w_Dec hown hK hP 3 rfl rfl 0 (by decide) (hts _ kF_Rea_28) (fun _ h9 => h9) rfl d_Rea_init_42 ?_
  refine va_putF (D := D) (ci := 4) (v := .ref q) (ty := .object "NearestReader$Fraction") (C := R_Rea) (T := F_Rea) (N := 7) hx hb hts w_Rea t_Rea tk_Rea n_Rea hown hK hP hD hS 0 rfl rfl 3 (by decide) (hts _ kF_Rea_32) (fun _ h9 => h9) rfl hin rfl (by decide +kernel) (rfl) (rfl) (Nat.le_of_ble_eq_true rfl) d_Rea_init_45 (fun H locs hP hD hS => ?_)
  have hP : va_P D vcl [(r, .inr (4, [.ref x, .ref q1, .ref q2, .ref q, .int 0, .long 0, .int 0])), (q1, .inr (3, [.ref x, .int 0, .int 0, .int 0, .int 0, .int 0, .int 0, .int 0])), (x, .inl (cC, 2400, .inl (fun _ => 0))), (q2, .inr (1, [.ref q, .int 0, .int 0, .int 0, .int 0])), (q, .inr (2, [.ref t, .ref b])), (t, .inr (0, [.ref ta, .int 0])), (ta, .inl (cA, 96, .inl (fun _ => 0))), (b, .inr (0, [.ref ba, .int 0])), (ba, .inl (cB, 96, .inl (fun _ => 0)))] H := hP
  have hD : va_D A [(r, .inr (4, [.ref x, .ref q1, .ref q2, .ref q, .int 0, .long 0, .int 0])), (q1, .inr (3, [.ref x, .int 0, .int 0, .int 0, .int 0, .int 0, .int 0, .int 0])), (x, .inl (cC, 2400, .inl (fun _ => 0))), (q2, .inr (1, [.ref q, .int 0, .int 0, .int 0, .int 0])), (q, .inr (2, [.ref t, .ref b])), (t, .inr (0, [.ref ta, .int 0])), (ta, .inl (cA, 96, .inl (fun _ => 0))), (b, .inr (0, [.ref ba, .int 0])), (ba, .inl (cB, 96, .inl (fun _ => 0)))] := hD
  refine lv_aload_n hx hb d_Rea_init_48 rfl (lv_at hl 0 rfl) ?_
  refine lv_iconst (v := 0) hx hb d_Rea_init_49 (by decide) ?_
  refine va_put (D := D) (ci := 4) (v := .int 0) (ty := .int) (C := R_Rea) (T := F_Rea) (N := 7) hx hb hts w_Rea t_Rea tk_Rea n_Rea hown hK hP hD hS 0 rfl rfl 4 (by decide) (hts _ kF_Rea_33) (fun _ h9 => h9) rfl (by decide +kernel) (rfl) (rfl) (Nat.le_of_ble_eq_true rfl) d_Rea_init_50 (fun H locs hP hD hS => ?_)
  have hP : va_P D vcl [(r, .inr (4, [.ref x, .ref q1, .ref q2, .ref q, .int 0, .long 0, .int 0])), (q1, .inr (3, [.ref x, .int 0, .int 0, .int 0, .int 0, .int 0, .int 0, .int 0])), (x, .inl (cC, 2400, .inl (fun _ => 0))), (q2, .inr (1, [.ref q, .int 0, .int 0, .int 0, .int 0])), (q, .inr (2, [.ref t, .ref b])), (t, .inr (0, [.ref ta, .int 0])), (ta, .inl (cA, 96, .inl (fun _ => 0))), (b, .inr (0, [.ref ba, .int 0])), (ba, .inl (cB, 96, .inl (fun _ => 0)))] H := hP
  have hD : va_D A [(r, .inr (4, [.ref x, .ref q1, .ref q2, .ref q, .int 0, .long 0, .int 0])), (q1, .inr (3, [.ref x, .int 0, .int 0, .int 0, .int 0, .int 0, .int 0, .int 0])), (x, .inl (cC, 2400, .inl (fun _ => 0))), (q2, .inr (1, [.ref q, .int 0, .int 0, .int 0, .int 0])), (q, .inr (2, [.ref t, .ref b])), (t, .inr (0, [.ref ta, .int 0])), (ta, .inl (cA, 96, .inl (fun _ => 0))), (b, .inr (0, [.ref ba, .int 0])), (ba, .inl (cB, 96, .inl (fun _ => 0)))] := hD
  refine lv_aload_n hx hb d_Rea_init_53 rfl (lv_at hl 0 rfl) ?_
  refine lv_lconst (v := 0) hx hb d_Rea_init_54 (by decide) ?_
  refine va_put (D := D) (ci := 4) (v := .long 0) (ty := .long) (C := R_Rea) (T := F_Rea) (N := 7) hx hb hts w_Rea t_Rea tk_Rea n_Rea hown hK hP hD hS 0 rfl rfl 5 (by decide) (hts _ kF_Rea_37) (fun _ h9 => h9) rfl (by decide +kernel) (rfl) (rfl) (Nat.le_of_ble_eq_true rfl) d_Rea_init_55 (fun H locs hP hD hS => ?_)
  have hP : va_P D vcl [(r, .inr (4, [.ref x, .ref q1, .ref q2, .ref q, .int 0, .long 0, .int 0])), (q1, .inr (3, [.ref x, .int 0, .int 0, .int 0, .int 0, .int 0, .int 0, .int 0])), (x, .inl (cC, 2400, .inl (fun _ => 0))), (q2, .inr (1, [.ref q, .int 0, .int 0, .int 0, .int 0])), (q, .inr (2, [.ref t, .ref b])), (t, .inr (0, [.ref ta, .int 0])), (ta, .inl (cA, 96, .inl (fun _ => 0))), (b, .inr (0, [.ref ba, .int 0])), (ba, .inl (cB, 96, .inl (fun _ => 0)))] H := hP
  have hD : va_D A [(r, .inr (4, [.ref x, .ref q1, .ref q2, .ref q, .int 0, .long 0, .int 0])), (q1, .inr (3, [.ref x, .int 0, .int 0, .int 0, .int 0, .int 0, .int 0, .int 0])), (x, .inl (cC, 2400, .inl (fun _ => 0))), (q2, .inr (1, [.ref q, .int 0, .int 0, .int 0, .int 0])), (q, .inr (2, [.ref t, .ref b])), (t, .inr (0, [.ref ta, .int 0])), (ta, .inl (cA, 96, .inl (fun _ => 0))), (b, .inr (0, [.ref ba, .int 0])), (ba, .inl (cB, 96, .inl (fun _ => 0)))] := hD
  refine lv_aload_n hx hb d_Rea_init_58 rfl (lv_at hl 0 rfl) ?_
  refine lv_iconst (v := 0) hx hb d_Rea_init_59 (by decide) ?_
  refine va_put (D := D) (ci := 4) (v := .int 0) (ty := .int) (C := R_Rea) (T := F_Rea) (N := 7) hx hb hts w_Rea t_Rea tk_Rea n_Rea hown hK hP hD hS 0 rfl rfl 6 (by decide) (hts _ kF_Rea_41) (fun _ h9 => h9) rfl (by decide +kernel) (rfl) (rfl) (Nat.le_of_ble_eq_true rfl) d_Rea_init_60 (fun H locs hP hD hS => ?_)
  have hP : va_P D vcl [(r, .inr (4, [.ref x, .ref q1, .ref q2, .ref q, .int 0, .long 0, .int 0])), (q1, .inr (3, [.ref x, .int 0, .int 0, .int 0, .int 0, .int 0, .int 0, .int 0])), (x, .inl (cC, 2400, .inl (fun _ => 0))), (q2, .inr (1, [.ref q, .int 0, .int 0, .int 0, .int 0])), (q, .inr (2, [.ref t, .ref b])), (t, .inr (0, [.ref ta, .int 0])), (ta, .inl (cA, 96, .inl (fun _ => 0))), (b, .inr (0, [.ref ba, .int 0])), (ba, .inl (cB, 96, .inl (fun _ => 0)))] H := hP
  have hD : va_D A [(r, .inr (4, [.ref x, .ref q1, .ref q2, .ref q, .int 0, .long 0, .int 0])), (q1, .inr (3, [.ref x, .int 0, .int 0, .int 0, .int 0, .int 0, .int 0, .int 0])), (x, .inl (cC, 2400, .inl (fun _ => 0))), (q2, .inr (1, [.ref q, .int 0, .int 0, .int 0, .int 0])), (q, .inr (2, [.ref t, .ref b])), (t, .inr (0, [.ref ta, .int 0])), (ta, .inl (cA, 96, .inl (fun _ => 0))), (b, .inr (0, [.ref ba, .int 0])), (ba, .inl (cB, 96, .inl (fun _ => 0)))] := hD
  exact rt_v hx hb hrt hlocks (((x, q1, q2, q), (t, ta, b, ba), (cC, cA, cB))) (trivial) (hP.sub [0, 2, 1, 3, 4, 5, 6, 7, 8] rfl) (hK.sub [0, 1, 2] rfl) (hD.sub [0, 2, 1, 3, 4, 5, 6, 7, 8] (by decide) rfl) hS d_Rea_init_63
