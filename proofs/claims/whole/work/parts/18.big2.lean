set_option maxHeartbeats 4000000 in
set_option maxRecDepth 100000 in
theorem c_Big_set (l : Launch) (D : va_G) (E : evD) (h a : Nat) (cA : ClassId) (f : Nat → Int32) (nv : Int32) (x : Nat) (hx64 : x < 2 ^ 64) : Cv (S := (Nat → Int32) × Nat) l y_Big_set (wz y_Big_set b_Big_set 3 none) ({ frames := 1, cells := 0, slots := 0, locals := 20 }) D vcl (ev1 E) [.ref h, .long (lN x)] [(cA, .int)] [(h, .inr (0, [.ref a, .int nv])), (a, .inl (cA, 96, .inl f))] 0 0 (fun u : (Nat → Int32) × Nat => isB u.1 u.2 x) (fun _ => [(cA, .int)]) (fun u : (Nat → Int32) × Nat => [(h, .inr (0, [.ref a, .int (nI u.2)])), (a, .inl (cA, 96, .inl u.1))]) := by
  have hev := ev1_ok E
  unfold Cv
  refine ct_of (y := y_Big_set) (av := [.ref h, .long (lN x)]) (cc := b_Big_set) (maxL := 3) (ret := none) (Qc := fun A => va_Qv (S := (Nat → Int32) × Nat) (fun u : (Nat → Int32) × Nat => isB u.1 u.2 x) (fun u tS => ctB D vcl ((fun _ => [(cA, .int)]) u) ((fun u : (Nat → Int32) × Nat => [(h, .inr (0, [.ref a, .int (nI u.2)])), (a, .inl (cA, 96, .inl u.1))]) u) A tS) A) (by decide) rfl (Nat.le_of_ble_eq_true rfl) ?_
  intro p ee s m below meth cde ls A H locs hx hb hml hrt hlocks hown hin hts hA hP hK hD hS hE hl
  have hown : s.vm.findClass R_Big = some m.cls := hown
  have hts := wz_g hts
  have hl : lv_has ls 3 [(0, .ref h), (1, .long (lN x))] := hl
  refine lv_aload_n hx hb d_Big_set_0 rfl (lv_at hl 0 rfl) ?_
  refine va_get (D := D) (ci := 0) (v := .ref a) (C := R_Big) (T := F_Big) (N := 2) hx hb hts w_Big hown hK hP 0 rfl rfl 0 (by decide) (hts _ kF_Big_9) (fun _ h9 => h9) rfl d_Big_set_1 ?_
  refine lv_iconst (v := 0) hx hb d_Big_set_4 (by decide) ?_
  refine lv_lload_n hx hb d_Big_set_5 rfl (lv_at hl 1 rfl) ?_
  refine lv_l2i (v := (lN x).toInt32) hx hb d_Big_set_6 (rfl) ?_
  refine tv_i (nI x) (lN_i x) ?_
  refine va_iast hx hb hK hP hD hS 1 0 rfl rfl (i := 0) (vp_in_nI (n := 0) (by decide) (by decide)) d_Big_set_7 (fun H locs hP hD hS => ?_)
  have hP : va_P D vcl [(h, .inr (0, [.ref a, .int nv])), (a, .inl (cA, 96, .inl (upd f (0 : Int32).toNatClampNeg (nI x))))] H := hP
  have hD : va_D A [(h, .inr (0, [.ref a, .int nv])), (a, .inl (cA, 96, .inl (upd f (0 : Int32).toNatClampNeg (nI x))))] := hD
  rw [show upd f (0 : Int32).toNatClampNeg (nI x) = upd f 0 (nI x) from rfl] at hP hD
  refine lv_aload_n hx hb d_Big_set_8 rfl (lv_at hl 0 rfl) ?_
  refine va_get (D := D) (ci := 0) (v := .ref a) (C := R_Big) (T := F_Big) (N := 2) hx hb hts w_Big hown hK hP 0 rfl rfl 0 (by decide) (hts _ kF_Big_9) (fun _ h9 => h9) rfl d_Big_set_9 ?_
  refine lv_iconst (v := 1) hx hb d_Big_set_12 (by decide) ?_
  refine lv_lload_n hx hb d_Big_set_13 rfl (lv_at hl 1 rfl) ?_
  refine lv_bipush (v := 32) hx hb d_Big_set_14 (by decide) ?_
  refine lv_lushr (v := lN (x / 4294967296)) hx hb d_Big_set_16 (wb_shr (k := 32) hx64 (by decide)) ?_
  refine lv_l2i (v := (lN (x / 4294967296)).toInt32) hx hb d_Big_set_17 (rfl) ?_
  refine tv_i (nI (x / 4294967296)) (lN_i _) ?_
  refine va_iast hx hb hK hP hD hS 1 0 rfl rfl (i := 1) (vp_in_nI (n := 1) (by decide) (by decide)) d_Big_set_18 (fun H locs hP hD hS => ?_)
  have hP : va_P D vcl [(h, .inr (0, [.ref a, .int nv])), (a, .inl (cA, 96, .inl (upd (upd f 0 (nI x)) (1 : Int32).toNatClampNeg (nI (x / 4294967296)))))] H := hP
  have hD : va_D A [(h, .inr (0, [.ref a, .int nv])), (a, .inl (cA, 96, .inl (upd (upd f 0 (nI x)) (1 : Int32).toNatClampNeg (nI (x / 4294967296)))))] := hD
  rw [show upd (upd f 0 (nI x)) (1 : Int32).toNatClampNeg (nI (x / 4294967296)) = upd (upd f 0 (nI x)) 1 (nI (x / 4294967296)) from rfl] at hP hD
  refine lv_aload_n hx hb d_Big_set_19 rfl (lv_at hl 0 rfl) ?_
  refine lv_iconst (v := 2) hx hb d_Big_set_20 (by decide) ?_
  refine tv_i (nI 2) (rfl) ?_
  refine va_put (D := D) (ci := 0) (v := .int (nI 2)) (ty := .int) (C := R_Big) (T := F_Big) (N := 2) hx hb hts w_Big t_Big tk_Big n_Big hown hK hP hD hS 0 rfl rfl 1 (by decide) (hts _ kF_Big_13) (fun _ h9 => h9) rfl (by decide +kernel) (rfl) (rfl) (Nat.le_of_ble_eq_true rfl) d_Big_set_21 (fun H locs hP hD hS => ?_)
  have hP : va_P D vcl [(h, .inr (0, [.ref a, .int (nI 2)])), (a, .inl (cA, 96, .inl (upd (upd f 0 (nI x)) 1 (nI (x / 4294967296)))))] H := hP
  have hD : va_D A [(h, .inr (0, [.ref a, .int (nI 2)])), (a, .inl (cA, 96, .inl (upd (upd f 0 (nI x)) 1 (nI (x / 4294967296)))))] := hD
  refine lv_aload_n hx hb d_Big_set_24 rfl (lv_at hl 0 rfl) ?_
  refine ca_v [] (va_runV (As := []) (rest := []) ⟨hx, hb, hml, hown, hts⟩ (c_Big_dropZeros l D E h a cA (upd (upd f 0 (nI x)) 1 (nI (x / 4294967296))) 2 (by decide) H.size) (xV 0 hts kC_Big_dropZeros kM_Big_17 kI_Big_dropZeros kS_Big_dropZeros kN_Big rfl rfl (by decide +kernel) ⟨Nat.le_of_ble_eq_true rfl, Nat.le_of_ble_eq_true rfl⟩) ⟨ct_blind hev, va_recv hK hP (ci := 0) (q0 := 0) rfl rfl, ct_pre hev hP hK hD hS hA hE [0, 1] rfl (by decide) [0] rfl⟩ rfl rfl hl.1 rfl (lv_room (Nat.le_of_ble_eq_true rfl)) d_Big_set_25 ⟨Nat.le_of_ble_eq_true rfl, Nat.le_of_ble_eq_true rfl⟩) hP hD hS hA [0, 1] [] rfl rfl (by decide) (by decide) (fun u H locs hw hP hD hS hK1 => ?_)
  obtain ⟨k1, rfl⟩ : ∃ z, z = u := ⟨_, rfl⟩
  have hP : va_P D vcl [(h, .inr (0, [.ref a, .int (nI k1)])), (a, .inl (cA, 96, .inl (upd (upd f 0 (nI x)) 1 (nI (x / 4294967296)))))] H := hP
  have hD : va_D A [(h, .inr (0, [.ref a, .int (nI k1)])), (a, .inl (cA, 96, .inl (upd (upd f 0 (nI x)) 1 (nI (x / 4294967296)))))] := hD
  exact rt_v hx hb hrt hlocks ((upd (upd f 0 (nI x)) 1 (nI (x / 4294967296)), k1)) (⟨hw.1.trans (set_bv hx64), by have := hw.2.1; omega, hw.2.2⟩) (hP.sub [0, 1] rfl) (hK.sub [0] rfl) (hD.sub [0, 1] (by decide) rfl) hS d_Big_set_28

set_option maxHeartbeats 4000000 in
set_option maxRecDepth 100000 in
theorem c_Big_bitLength (l : Launch) (D : va_G) (E : evD) (h a : Nat) (cA : ClassId) (f : Nat → Int32) (n : Nat) (V : Nat) (hB : isB f n V) : Ci (S := Unit) l y_Big_bitLength (wz y_Big_bitLength b_Big_bitLength 1 (some .int)) ({ frames := 1, cells := 0, slots := 0, locals := 25 }) D vcl (ev1 E) [.ref h] [(cA, .int)] [(h, .inr (0, [.ref a, .int (nI n)])), (a, .inl (cA, 96, .inl f))] 0 0 (fun (r : Int32) (_ : Unit) => r = nI (bln V)) (fun _ => [(cA, .int)]) (fun _ : Unit => [(h, .inr (0, [.ref a, .int (nI n)])), (a, .inl (cA, 96, .inl f))]) := by
  have hev := ev1_ok E
  unfold Ci
  refine ct_of (y := y_Big_bitLength) (av := [.ref h]) (cc := b_Big_bitLength) (maxL := 1) (ret := (some .int)) (Qc := fun A => va_Qi (S := Unit) (fun (r : Int32) (_ : Unit) => r = nI (bln V)) (fun u tS => ctB D vcl ((fun _ => [(cA, .int)]) u) ((fun _ : Unit => [(h, .inr (0, [.ref a, .int (nI n)])), (a, .inl (cA, 96, .inl f))]) u) A tS) A) (by decide) rfl (Nat.le_of_ble_eq_true rfl) ?_
  intro p ee s m below meth cde ls A H locs hx hb hml hrt hlocks hown hin hts hA hP hK hD hS hE hl
  have hown : s.vm.findClass R_Big = some m.cls := hown
  have hts := wz_g hts
  have hl : lv_has ls 1 [(0, .ref h)] := hl
  have hn96 := hB.2.1
  refine lv_aload_n hx hb d_Big_bitLength_0 rfl (lv_at hl 0 rfl) ?_
  refine va_get (D := D) (ci := 0) (v := .int (nI n)) (C := R_Big) (T := F_Big) (N := 2) hx hb hts w_Big hown hK hP 0 rfl rfl 1 (by decide) (hts _ kF_Big_13) (fun _ h9 => h9) rfl d_Big_bitLength_1 ?_
  refine lv_if_ne (tgt := 11) hx hb d_Big_bitLength_4 (by decide) (fun c4 => ?_) (fun c4 => ?_)
  · have e4 : n ≠ 0 := fun z => c4 ((nI_eq0 (by omega)).mpr z)
    have hbl : bln V = 32 * (n - 1) + bln (w32 (f (n - 1))) := by
      have h9 := hB
      rw [show n = n - 1 + 1 by omega] at h9
      exact bl_B h9
    refine lv_aload_n hx hb d_Big_bitLength_11 rfl (lv_at hl 0 rfl) ?_
    refine va_get (D := D) (ci := 0) (v := .int (nI n)) (C := R_Big) (T := F_Big) (N := 2) hx hb hts w_Big hown hK hP 0 rfl rfl 1 (by decide) (hts _ kF_Big_13) (fun _ h9 => h9) rfl d_Big_bitLength_12 ?_
    refine lv_bipush (v := 32) hx hb d_Big_bitLength_15 (by decide) ?_
    refine lv_imul hx hb d_Big_bitLength_17 ?_
    refine lv_bipush (v := 32) hx hb d_Big_bitLength_18 (by decide) ?_
    refine lv_isub hx hb d_Big_bitLength_20 ?_
    refine tv_i (nI (32 * (n - 1))) (by show nI n * nI 32 - nI 32 = _; rw [pk_mul, pk_sub (by omega)]; congr 1; omega) ?_
    refine lv_aload_n hx hb d_Big_bitLength_21 rfl (lv_at hl 0 rfl) ?_
    refine va_get (D := D) (ci := 0) (v := .ref a) (C := R_Big) (T := F_Big) (N := 2) hx hb hts w_Big hown hK hP 0 rfl rfl 0 (by decide) (hts _ kF_Big_9) (fun _ h9 => h9) rfl d_Big_bitLength_22 ?_
    refine lv_aload_n hx hb d_Big_bitLength_25 rfl (lv_at hl 0 rfl) ?_
    refine va_get (D := D) (ci := 0) (v := .int (nI n)) (C := R_Big) (T := F_Big) (N := 2) hx hb hts w_Big hown hK hP 0 rfl rfl 1 (by decide) (hts _ kF_Big_13) (fun _ h9 => h9) rfl d_Big_bitLength_26 ?_
    refine lv_iconst (v := 1) hx hb d_Big_bitLength_29 (by decide) ?_
    refine lv_isub hx hb d_Big_bitLength_30 ?_
    refine tv_i (nI (n - 1)) (nI_dec (by omega)) ?_
    refine va_iald hx hb hK hP 1 0 rfl rfl (i := nI (n - 1)) (vp_in_nI (show n - 1 < 96 by omega) (by decide)) d_Big_bitLength_31 ?_
    refine tv_i (f (n - 1)) (by rw [nI_clamp (by omega)]) ?_
    refine lv_i2l (v := (f (n - 1)).toInt64) hx hb d_Big_bitLength_32 (rfl) ?_
    refine lv_ldc2 hx hb hown (hts _ kK_Big_20) d_Big_bitLength_33 ?_
    refine lv_land hx hb d_Big_bitLength_36 ?_
    refine tv_l (lN (w32 (f (n - 1)))) (lim _) ?_
    refine ca_i [(h, .inr (0, [.ref a, .int (nI n)])), (a, .inl (cA, 96, .inl f))] (va_runSN (As := [.long (lN (w32 (f (n - 1))))]) (rest := [.int (nI (32 * (n - 1)))]) ⟨hx, hb, hml, hown, hts⟩ (c_Rea_bitLengthOf l D E (w32 (f (n - 1))) (by have := w32_lt (f (n - 1)); omega) H.size) (xSN 1 hts kC_Rea_bitLengthOf hE.1.2.2 kT_Rea_bitLengthOf kN_Rea rfl rfl (by decide +kernel) ⟨Nat.le_of_ble_eq_true rfl, Nat.le_of_ble_eq_true rfl⟩) ⟨ct_blind hev, ct_pre hev hP hK hD hS hA hE [] rfl (by decide) [] rfl⟩ rfl rfl hl.1 rfl (lv_room (Nat.le_of_ble_eq_true rfl)) d_Big_bitLength_37 ⟨Nat.le_of_ble_eq_true rfl, Nat.le_of_ble_eq_true rfl⟩) hP hD hS hA [] [0, 1] rfl rfl (by decide) (by decide) (fun rv u H locs hw hP hD hS hK1 => ?_)
    subst hw
    have hP : va_P D vcl [(h, .inr (0, [.ref a, .int (nI n)])), (a, .inl (cA, 96, .inl f))] H := hP
    have hD : va_D A [(h, .inr (0, [.ref a, .int (nI n)])), (a, .inl (cA, 96, .inl f))] := hD
    refine lv_iadd hx hb d_Big_bitLength_40 ?_
    refine tv_i (nI (bln V)) (by rw [nI_add, hbl]) ?_
    exact rt_i hx hb hrt hlocks (rfl) (()) (rfl) (hP.sub [0, 1] rfl) (hK.sub [0] rfl) (hD.sub [0, 1] (by decide) rfl) hS d_Big_bitLength_41
  · have e4 : n = 0 := (nI_eq0 (by omega)).mp c4
    refine lv_iconst (v := 0) hx hb d_Big_bitLength_7 (by decide) ?_
    refine lv_goto (tgt := 41) hx hb d_Big_bitLength_8 (by decide) ?_
    exact rt_i hx hb hrt hlocks (rfl) (()) (by rw [(isB_0 hB).mp e4]; rfl) (hP.sub [0, 1] rfl) (hK.sub [0] rfl) (hD.sub [0, 1] (by decide) rfl) hS d_Big_bitLength_41

set_option maxHeartbeats 4000000 in
set_option maxRecDepth 100000 in
theorem c_Big_timesFives (l : Launch) (D : va_G) (E : evD) (h a : Nat) (cA : ClassId) (f : Nat → Int32) (n : Nat) (V cn : Nat) (hB : isB f n V) (hc31 : cn < 2147483648) (hfit : V * 5 ^ cn < pw 96) : Cv (S := (Nat → Int32) × Nat) l y_Big_timesFives (wz y_Big_timesFives b_Big_timesFives 3 none) ({ frames := 1, cells := 0, slots := 0, locals := 25 }) D vcl (ev1 E) [.ref h, .int (nI cn)] [(cA, .int)] [(h, .inr (0, [.ref a, .int (nI n)])), (a, .inl (cA, 96, .inl f))] 0 0 (fun u : (Nat → Int32) × Nat => isB u.1 u.2 (V * 5 ^ cn)) (fun _ => [(cA, .int)]) (fun u : (Nat → Int32) × Nat => [(h, .inr (0, [.ref a, .int (nI u.2)])), (a, .inl (cA, 96, .inl u.1))]) := by
  have hev := ev1_ok E
  unfold Cv
  refine ct_of (y := y_Big_timesFives) (av := [.ref h, .int (nI cn)]) (cc := b_Big_timesFives) (maxL := 3) (ret := none) (Qc := fun A => va_Qv (S := (Nat → Int32) × Nat) (fun u : (Nat → Int32) × Nat => isB u.1 u.2 (V * 5 ^ cn)) (fun u tS => ctB D vcl ((fun _ => [(cA, .int)]) u) ((fun u : (Nat → Int32) × Nat => [(h, .inr (0, [.ref a, .int (nI u.2)])), (a, .inl (cA, 96, .inl u.1))]) u) A tS) A) (by decide) rfl (Nat.le_of_ble_eq_true rfl) ?_
  intro p ee s m below meth cde ls A H locs hx hb hml hrt hlocks hown hin hts hA hP hK hD hS hE hl
  have hown : s.vm.findClass R_Big = some m.cls := hown
  have hts := wz_g hts
  have hl : lv_has ls 3 [(0, .ref h), (1, .int (nI cn))] := hl
  have hn96 := hB.2.1
  refine lv_iload_n hx hb d_Big_timesFives_0 rfl (lv_at hl 1 rfl) ?_
  refine lv_istore_n (lv' := [(2, .int (nI cn)), (0, .ref h), (1, .int (nI cn))]) hx hb d_Big_timesFives_1 rfl hl (by decide) rfl (fun ls hl => ?_)
  have L2 : ∀ (kk : Nat) (d : Nat) (g : Nat → Int32) (k : Nat), d < kk → (d ≤ cn) → (isB g k (V * 5 ^ (cn - d))) → ∀ (H : Heap) (locs : List Loc) (ls : Array Slot), va_P D vcl [(h, .inr (0, [.ref a, .int (nI k)])), (a, .inl (cA, 96, .inl g))] H → va_D A [(h, .inr (0, [.ref a, .int (nI k)])), (a, .inl (cA, 96, .inl g))] → va_S A s.heap H locs → lv_has ls 3 [(0, .ref h), (2, .int (nI d))] → W p l ee ({ frames := 1, cells := 0, slots := 0, locals := 25 }) s m ([.ref h, .int (nI cn)] : List Value).toArray below meth cde H locs 0 0 (MQ below (va_Qv (S := (Nat → Int32) × Nat) (fun u : (Nat → Int32) × Nat => isB u.1 u.2 (V * 5 ^ cn)) (fun u tS => ctB D vcl ((fun _ => [(cA, .int)]) u) ((fun u : (Nat → Int32) × Nat => [(h, .inr (0, [.ref a, .int (nI u.2)])), (a, .inl (cA, 96, .inl u.1))]) u) A tS) A) ([.ref h, .int (nI cn)] : List Value).toArray s 0 0 A) (F0 m 2 ls []) := by
    intro kk
    induction kk with
    | zero => intro d g k hmz; exact absurd hmz (Nat.not_lt_zero _)
    | succ kk ih =>
      intro d g k hmz hd hG H locs ls hP hD hS hl
      refine lv_iload_n hx hb d_Big_timesFives_2 rfl (lv_at hl 1 rfl) ?_
      refine lv_bipush (v := 13) hx hb d_Big_timesFives_3 (by decide) ?_
      refine lv_icmp_lt (tgt := 21) hx hb d_Big_timesFives_5 (by decide) (fun c5 => ?_) (fun c5 => ?_)
      · have e5 : d < 13 := (nI_ltI (b := 13) (by omega) (by decide)).mp c5
        have L21 : ∀ (kk : Nat) (d : Nat) (g : Nat → Int32) (k : Nat), d < kk → (d ≤ cn) → (isB g k (V * 5 ^ (cn - d))) → ∀ (H : Heap) (locs : List Loc) (ls : Array Slot), va_P D vcl [(h, .inr (0, [.ref a, .int (nI k)])), (a, .inl (cA, 96, .inl g))] H → va_D A [(h, .inr (0, [.ref a, .int (nI k)])), (a, .inl (cA, 96, .inl g))] → va_S A s.heap H locs → lv_has ls 3 [(0, .ref h), (2, .int (nI d))] → W p l ee ({ frames := 1, cells := 0, slots := 0, locals := 25 }) s m ([.ref h, .int (nI cn)] : List Value).toArray below meth cde H locs 0 0 (MQ below (va_Qv (S := (Nat → Int32) × Nat) (fun u : (Nat → Int32) × Nat => isB u.1 u.2 (V * 5 ^ cn)) (fun u tS => ctB D vcl ((fun _ => [(cA, .int)]) u) ((fun u : (Nat → Int32) × Nat => [(h, .inr (0, [.ref a, .int (nI u.2)])), (a, .inl (cA, 96, .inl u.1))]) u) A tS) A) ([.ref h, .int (nI cn)] : List Value).toArray s 0 0 A) (F0 m 21 ls []) := by
          intro kk
          induction kk with
          | zero => intro d g k hmz; exact absurd hmz (Nat.not_lt_zero _)
          | succ kk ih =>
            intro d g k hmz hd hG H locs ls hP hD hS hl
            refine lv_iload_n hx hb d_Big_timesFives_21 rfl (lv_at hl 1 rfl) ?_
            refine lv_if_le (tgt := 37) hx hb d_Big_timesFives_22 (by decide) (fun c22 => ?_) (fun c22 => ?_)
            · have e22 : d = 0 := (nI_le0 (by omega)).mp c22
              rw [e22] at hG
              exact rt_v hx hb hrt hlocks ((g, k)) (hG) (hP.sub [0, 1] rfl) (hK.sub [0] rfl) (hD.sub [0, 1] (by decide) rfl) hS d_Big_timesFives_37
            · have e22 : 0 < d := Nat.pos_of_ne_zero (fun z => c22 ((nI_le0 (by omega)).mpr z))
              refine lv_aload_n hx hb d_Big_timesFives_25 rfl (lv_at hl 0 rfl) ?_
              refine lv_iconst (v := 5) hx hb d_Big_timesFives_26 (by decide) ?_
              refine tv_i (nI (5 ^ 1)) (by decide) ?_
              refine lv_iconst (v := 0) hx hb d_Big_timesFives_27 (by decide) ?_
              refine tv_i (nI 0) (rfl) ?_
              refine ca_v [] (va_runV (As := [.int (nI (5 ^ 1)), .int (nI 0)]) (rest := []) ⟨hx, hb, hml, hown, hts⟩ (c_Big_timesPlus l D E h a cA g k (V * 5 ^ (cn - d)) (5 ^ 1) 0 hG (by decide) (by decide) (by decide) (five_fit hfit hd (by omega)) H.size) (xV 2 hts kC_Big_timesPlus kM_Big_29 kI_Big_timesPlus kS_Big_timesPlus kN_Big rfl rfl (by decide +kernel) ⟨Nat.le_of_ble_eq_true rfl, Nat.le_of_ble_eq_true rfl⟩) ⟨ct_blind hev, va_recv hK hP (ci := 0) (q0 := 0) rfl rfl, ct_pre hev hP hK hD hS hA hE [0, 1] rfl (by decide) [0] rfl⟩ rfl rfl hl.1 rfl (lv_room (Nat.le_of_ble_eq_true rfl)) d_Big_timesFives_28 ⟨Nat.le_of_ble_eq_true rfl, Nat.le_of_ble_eq_true rfl⟩) hP hD hS hA [0, 1] [] rfl rfl (by decide) (by decide) (fun u H locs hw hP hD hS hK1 => ?_)
              obtain ⟨f1, n2⟩ := u
              have hB3 : isB f1 n2 (V * 5 ^ (cn - (d - 1))) := by have h9 : isB _ _ (V * 5 ^ (cn - d) * 5 ^ 1 + 0) := hw; rw [five_next hd (by omega)] at h9; exact h9
              have hP : va_P D vcl [(h, .inr (0, [.ref a, .int (nI n2)])), (a, .inl (cA, 96, .inl f1))] H := hP
              have hD : va_D A [(h, .inr (0, [.ref a, .int (nI n2)])), (a, .inl (cA, 96, .inl f1))] := hD
              refine lv_iinc (v := nI (d - 1)) (lv' := [(2, .int (nI (d - 1))), (0, .ref h)]) hx hb d_Big_timesFives_31 hl (k := 1) rfl (by show nI d + zI (-1) = _; rw [← zI_nI, ← zI_nI, zI_add]; congr 1; omega) (by decide) rfl (fun ls hl => ?_)
              refine lv_goto (tgt := 21) hx hb d_Big_timesFives_34 (by decide) ?_
              exact ih (d - 1) f1 n2 (by omega) (by omega) (hB3) _ _ _ (hP.sub [0, 1] rfl) (hD.sub [0, 1] (by decide) rfl) hS (lv_sub hl [1, 0] rfl)
        exact L21 (d + 1) d g k (by omega) (hd) (hG) _ _ _ (hP.sub [0, 1] rfl) (hD.sub [0, 1] (by decide) rfl) hS (lv_sub hl [0, 1] rfl)
      · have e5 : 13 ≤ d := Nat.le_of_not_lt (fun z => c5 ((nI_ltI (b := 13) (by omega) (by decide)).mpr z))
        refine lv_aload_n hx hb d_Big_timesFives_8 rfl (lv_at hl 0 rfl) ?_
        refine lv_ldc hx hb hown (hts _ kK_Big_28) d_Big_timesFives_9 ?_
        refine tv_i (nI (5 ^ 13)) (by decide) ?_
        refine lv_iconst (v := 0) hx hb d_Big_timesFives_11 (by decide) ?_
        refine tv_i (nI 0) (rfl) ?_
        refine ca_v [] (va_runV (As := [.int (nI (5 ^ 13)), .int (nI 0)]) (rest := []) ⟨hx, hb, hml, hown, hts⟩ (c_Big_timesPlus l D E h a cA g k (V * 5 ^ (cn - d)) (5 ^ 13) 0 hG (by decide) (by decide) (by decide) (five_fit hfit hd (by omega)) H.size) (xV 2 hts kC_Big_timesPlus kM_Big_29 kI_Big_timesPlus kS_Big_timesPlus kN_Big rfl rfl (by decide +kernel) ⟨Nat.le_of_ble_eq_true rfl, Nat.le_of_ble_eq_true rfl⟩) ⟨ct_blind hev, va_recv hK hP (ci := 0) (q0 := 0) rfl rfl, ct_pre hev hP hK hD hS hA hE [0, 1] rfl (by decide) [0] rfl⟩ rfl rfl hl.1 rfl (lv_room (Nat.le_of_ble_eq_true rfl)) d_Big_timesFives_12 ⟨Nat.le_of_ble_eq_true rfl, Nat.le_of_ble_eq_true rfl⟩) hP hD hS hA [0, 1] [] rfl rfl (by decide) (by decide) (fun u H locs hw hP hD hS hK1 => ?_)
        obtain ⟨f4, n5⟩ := u
        have hB6 : isB f4 n5 (V * 5 ^ (cn - (d - 13))) := by have h9 : isB _ _ (V * 5 ^ (cn - d) * 5 ^ 13 + 0) := hw; rw [five_next hd (by omega)] at h9; exact h9
        have hP : va_P D vcl [(h, .inr (0, [.ref a, .int (nI n5)])), (a, .inl (cA, 96, .inl f4))] H := hP
        have hD : va_D A [(h, .inr (0, [.ref a, .int (nI n5)])), (a, .inl (cA, 96, .inl f4))] := hD
        refine lv_iinc (v := nI (d - 13)) (lv' := [(2, .int (nI (d - 13))), (0, .ref h)]) hx hb d_Big_timesFives_15 hl (k := 1) rfl (by show nI d + zI (-13) = _; rw [← zI_nI, ← zI_nI, zI_add]; congr 1; omega) (by decide) rfl (fun ls hl => ?_)
        refine lv_goto (tgt := 2) hx hb d_Big_timesFives_18 (by decide) ?_
        exact ih (d - 13) f4 n5 (by omega) (by omega) (hB6) _ _ _ (hP.sub [0, 1] rfl) (hD.sub [0, 1] (by decide) rfl) hS (lv_sub hl [1, 0] rfl)
  exact L2 (cn + 1) cn f n (by omega) (Nat.le_refl _) (by rw [Nat.sub_self, Nat.pow_zero, Nat.mul_one]; exact hB) _ _ _ (hP.sub [0, 1] rfl) (hD.sub [0, 1] (by decide) rfl) hS (lv_sub hl [1, 0] rfl)

set_option maxHeartbeats 4000000 in
set_option maxRecDepth 100000 in
theorem c_Big_shiftLeft (l : Launch) (D : va_G) (E : evD) (h a : Nat) (cA : ClassId) (f : Nat → Int32) (n : Nat) (V cn : Nat) (hB : isB f n V) (hc31 : cn < 2147483648) (hfit : n + cn / 32 < 96) : Cv (S := (Nat → Int32) × Nat) l y_Big_shiftLeft (wz y_Big_shiftLeft b_Big_shiftLeft 9 none) ({ frames := 1, cells := 0, slots := 0, locals := 20 }) D vcl (ev1 E) [.ref h, .int (nI cn)] [(cA, .int)] [(h, .inr (0, [.ref a, .int (nI n)])), (a, .inl (cA, 96, .inl f))] 0 0 (fun u : (Nat → Int32) × Nat => isB u.1 u.2 (V * 2 ^ cn)) (fun _ => [(cA, .int)]) (fun u : (Nat → Int32) × Nat => [(h, .inr (0, [.ref a, .int (nI u.2)])), (a, .inl (cA, 96, .inl u.1))]) := by
  have hev := ev1_ok E
  unfold Cv
  refine ct_of (y := y_Big_shiftLeft) (av := [.ref h, .int (nI cn)]) (cc := b_Big_shiftLeft) (maxL := 9) (ret := none) (Qc := fun A => va_Qv (S := (Nat → Int32) × Nat) (fun u : (Nat → Int32) × Nat => isB u.1 u.2 (V * 2 ^ cn)) (fun u tS => ctB D vcl ((fun _ => [(cA, .int)]) u) ((fun u : (Nat → Int32) × Nat => [(h, .inr (0, [.ref a, .int (nI u.2)])), (a, .inl (cA, 96, .inl u.1))]) u) A tS) A) (by decide) rfl (Nat.le_of_ble_eq_true rfl) ?_
  intro p ee s m below meth cde ls A H locs hx hb hml hrt hlocks hown hin hts hA hP hK hD hS hE hl
  have hown : s.vm.findClass R_Big = some m.cls := hown
  have hts := wz_g hts
  have hl : lv_has ls 9 [(0, .ref h), (1, .int (nI cn))] := hl
  have hn96 := hB.2.1
  refine lv_iload_n hx hb d_Big_shiftLeft_0 rfl (lv_at hl 1 rfl) ?_
  refine lv_iconst (v := 5) hx hb d_Big_shiftLeft_1 (by decide) ?_
  refine lv_ishr hx hb d_Big_shiftLeft_2 ?_
  refine tv_i (nI (cn / 32)) (pk_shrN (by omega) _ 5 (by decide)) ?_
  refine lv_istore_n (lv' := [(2, .int (nI (cn / 32))), (0, .ref h), (1, .int (nI cn))]) hx hb d_Big_shiftLeft_3 rfl hl (by decide) rfl (fun ls hl => ?_)
  refine lv_iload_n hx hb d_Big_shiftLeft_4 rfl (lv_at hl 2 rfl) ?_
  refine lv_bipush (v := 31) hx hb d_Big_shiftLeft_5 (by decide) ?_
  refine lv_iand hx hb d_Big_shiftLeft_7 ?_
  refine tv_i (nI (cn % 32)) (pk_andN (by omega) 5 (by decide)) ?_
  refine lv_istore_n (lv' := [(3, .int (nI (cn % 32))), (2, .int (nI (cn / 32))), (0, .ref h), (1, .int (nI cn))]) hx hb d_Big_shiftLeft_8 rfl hl (by decide) rfl (fun ls hl => ?_)
  refine lv_iload_n hx hb d_Big_shiftLeft_9 rfl (lv_at hl 3 rfl) ?_
  refine lv_if_le (tgt := 27) hx hb d_Big_shiftLeft_10 (by decide) (fun c10 => ?_) (fun c10 => ?_)
  · have e10 : cn = 0 := (nI_le0 (by omega)).mp c10
    exact rt_v hx hb hrt hlocks ((f, n)) (by rw [e10, Nat.pow_zero, Nat.mul_one]; exact hB) (hP.sub [0, 1] rfl) (hK.sub [0] rfl) (hD.sub [0, 1] (by decide) rfl) hS d_Big_shiftLeft_27
  · have e10 : 0 < cn := Nat.pos_of_ne_zero (fun z => c10 ((nI_le0 (by omega)).mpr z))
    refine lv_aload_n hx hb d_Big_shiftLeft_13 rfl (lv_at hl 2 rfl) ?_
    refine va_get (D := D) (ci := 0) (v := .int (nI n)) (C := R_Big) (T := F_Big) (N := 2) hx hb hts w_Big hown hK hP 0 rfl rfl 1 (by decide) (hts _ kF_Big_13) (fun _ h9 => h9) rfl d_Big_shiftLeft_14 ?_
    refine lv_iload_n hx hb d_Big_shiftLeft_17 rfl (lv_at hl 1 rfl) ?_
    refine lv_iadd hx hb d_Big_shiftLeft_18 ?_
    refine tv_i (nI (n + cn / 32)) (nI_add _ _) ?_
    refine lv_aload_n hx hb d_Big_shiftLeft_19 rfl (lv_at hl 2 rfl) ?_
    refine va_get (D := D) (ci := 0) (v := .ref a) (C := R_Big) (T := F_Big) (N := 2) hx hb hts w_Big hown hK hP 0 rfl rfl 0 (by decide) (hts _ kF_Big_9) (fun _ h9 => h9) rfl d_Big_shiftLeft_20 ?_
    refine va_alen hx hb hK hP 1 0 rfl rfl (v := 96) rfl d_Big_shiftLeft_23 ?_
    refine lv_icmp_lt (tgt := 28) hx hb d_Big_shiftLeft_24 (by decide) (fun c24 => ?_) (fun c24 => ?_)
    · refine lv_aload_n hx hb d_Big_shiftLeft_28 rfl (lv_at hl 2 rfl) ?_
      refine va_get (D := D) (ci := 0) (v := .int (nI n)) (C := R_Big) (T := F_Big) (N := 2) hx hb hts w_Big hown hK hP 0 rfl rfl 1 (by decide) (hts _ kF_Big_13) (fun _ h9 => h9) rfl d_Big_shiftLeft_29 ?_
      refine tv_i (nI (n + 1) - 1) ((nI_pred n).symm) ?_
      refine lv_istore (lv' := [(4, .int (nI (n + 1) - 1)), (3, .int (nI (cn % 32))), (2, .int (nI (cn / 32))), (0, .ref h), (1, .int (nI cn))]) hx hb d_Big_shiftLeft_32 hl (by decide) rfl (fun ls hl => ?_)
      have L34 : ∀ (kk : Nat) (k : Nat) (g : Nat → Int32), k < kk → (k ≤ n + 1) → (∀ j, j < k → g j = f j) → (∀ j, k ≤ j → j ≤ n → g (j + cn / 32) = sh_f f n (cn % 32) j) → ∀ (H : Heap) (locs : List Loc) (ls : Array Slot), va_P D vcl [(h, .inr (0, [.ref a, .int (nI n)])), (a, .inl (cA, 96, .inl g))] H → va_D A [(h, .inr (0, [.ref a, .int (nI n)])), (a, .inl (cA, 96, .inl g))] → va_S A s.heap H locs → lv_has ls 9 [(0, .ref h), (2, .int (nI (cn / 32))), (3, .int (nI (cn % 32))), (4, .int (nI k - 1))] → W p l ee ({ frames := 1, cells := 0, slots := 0, locals := 20 }) s m ([.ref h, .int (nI cn)] : List Value).toArray below meth cde H locs 0 0 (MQ below (va_Qv (S := (Nat → Int32) × Nat) (fun u : (Nat → Int32) × Nat => isB u.1 u.2 (V * 2 ^ cn)) (fun u tS => ctB D vcl ((fun _ => [(cA, .int)]) u) ((fun u : (Nat → Int32) × Nat => [(h, .inr (0, [.ref a, .int (nI u.2)])), (a, .inl (cA, 96, .inl u.1))]) u) A tS) A) ([.ref h, .int (nI cn)] : List Value).toArray s 0 0 A) (F0 m 34 ls []) := by
        intro kk
        induction kk with
        | zero => intro k g hmz; exact absurd hmz (Nat.not_lt_zero _)
        | succ kk ih =>
          intro k g hmz hk hg hs H locs ls hP hD hS hl
          refine lv_iload hx hb d_Big_shiftLeft_34 (lv_at hl 3 rfl) ?_
          refine lv_if_lt (tgt := 120) hx hb d_Big_shiftLeft_36 (by decide) (fun c36 => ?_) (fun c36 => ?_)
          · have e36 : k = 0 := (nI_m1lt (by omega)).mp c36
            refine lv_iconst (v := 0) hx hb d_Big_shiftLeft_120 (by decide) ?_
            refine tv_i (nI 0) (rfl) ?_
            refine lv_istore (lv' := [(4, .int (nI 0)), (0, .ref h), (2, .int (nI (cn / 32))), (3, .int (nI (cn % 32)))]) hx hb d_Big_shiftLeft_121 hl (by decide) rfl (fun ls hl => ?_)
            have L123 : ∀ (kk : Nat) (i : Nat) (q : Nat → Int32), cn / 32 - i < kk → (i ≤ cn / 32) → (∀ j, j < i → q j = 0) → (∀ j, j ≤ n → q (j + cn / 32) = sh_f f n (cn % 32) j) → ∀ (H : Heap) (locs : List Loc) (ls : Array Slot), va_P D vcl [(h, .inr (0, [.ref a, .int (nI n)])), (a, .inl (cA, 96, .inl q))] H → va_D A [(h, .inr (0, [.ref a, .int (nI n)])), (a, .inl (cA, 96, .inl q))] → va_S A s.heap H locs → lv_has ls 9 [(0, .ref h), (2, .int (nI (cn / 32))), (4, .int (nI i))] → W p l ee ({ frames := 1, cells := 0, slots := 0, locals := 20 }) s m ([.ref h, .int (nI cn)] : List Value).toArray below meth cde H locs 0 0 (MQ below (va_Qv (S := (Nat → Int32) × Nat) (fun u : (Nat → Int32) × Nat => isB u.1 u.2 (V * 2 ^ cn)) (fun u tS => ctB D vcl ((fun _ => [(cA, .int)]) u) ((fun u : (Nat → Int32) × Nat => [(h, .inr (0, [.ref a, .int (nI u.2)])), (a, .inl (cA, 96, .inl u.1))]) u) A tS) A) ([.ref h, .int (nI cn)] : List Value).toArray s 0 0 A) (F0 m 123 ls []) := by
              intro kk
              induction kk with
              | zero => intro i q hmz; exact absurd hmz (Nat.not_lt_zero _)
              | succ kk ih =>
                intro i q hmz hi hz hs2 H locs ls hP hD hS hl
                refine lv_iload hx hb d_Big_shiftLeft_123 (lv_at hl 2 rfl) ?_
                refine lv_iload_n hx hb d_Big_shiftLeft_125 rfl (lv_at hl 1 rfl) ?_
                refine lv_icmp_ge (tgt := 143) hx hb d_Big_shiftLeft_126 (by decide) (fun c126 => ?_) (fun c126 => ?_)
                · have e126 : i = cn / 32 := by have := (nI_leI (by omega) (by omega)).mp c126; omega
                  rw [e126] at hz
                  refine lv_aload_n hx hb d_Big_shiftLeft_143 rfl (lv_at hl 0 rfl) ?_
                  refine lv_dup hx hb d_Big_shiftLeft_144 rfl ?_
                  refine va_get (D := D) (ci := 0) (v := .int (nI n)) (C := R_Big) (T := F_Big) (N := 2) hx hb hts w_Big hown hK hP 0 rfl rfl 1 (by decide) (hts _ kF_Big_13) (fun _ h9 => h9) rfl d_Big_shiftLeft_145 ?_
                  refine lv_iload_n hx hb d_Big_shiftLeft_148 rfl (lv_at hl 1 rfl) ?_
                  refine lv_iconst (v := 1) hx hb d_Big_shiftLeft_149 (by decide) ?_
                  refine lv_iadd hx hb d_Big_shiftLeft_150 ?_
                  refine tv_i (nI (cn / 32 + 1)) (nI_1 _) ?_
                  refine lv_iadd hx hb d_Big_shiftLeft_151 ?_
                  refine tv_i (nI (n + (cn / 32 + 1))) (nI_add _ _) ?_
                  refine va_put (D := D) (ci := 0) (v := .int (nI (n + (cn / 32 + 1)))) (ty := .int) (C := R_Big) (T := F_Big) (N := 2) hx hb hts w_Big t_Big tk_Big n_Big hown hK hP hD hS 0 rfl rfl 1 (by decide) (hts _ kF_Big_13) (fun _ h9 => h9) rfl (by decide +kernel) (rfl) (rfl) (Nat.le_of_ble_eq_true rfl) d_Big_shiftLeft_152 (fun H locs hP hD hS => ?_)
                  have hP : va_P D vcl [(h, .inr (0, [.ref a, .int (nI (n + (cn / 32 + 1)))])), (a, .inl (cA, 96, .inl q))] H := hP
                  have hD : va_D A [(h, .inr (0, [.ref a, .int (nI (n + (cn / 32 + 1)))])), (a, .inl (cA, 96, .inl q))] := hD
                  refine lv_aload_n hx hb d_Big_shiftLeft_155 rfl (lv_at hl 0 rfl) ?_
                  refine ca_v [] (va_runV (As := []) (rest := []) ⟨hx, hb, hml, hown, hts⟩ (c_Big_dropZeros l D E h a cA q (n + (cn / 32 + 1)) (by omega) H.size) (xV 0 hts kC_Big_dropZeros kM_Big_17 kI_Big_dropZeros kS_Big_dropZeros kN_Big rfl rfl (by decide +kernel) ⟨Nat.le_of_ble_eq_true rfl, Nat.le_of_ble_eq_true rfl⟩) ⟨ct_blind hev, va_recv hK hP (ci := 0) (q0 := 0) rfl rfl, ct_pre hev hP hK hD hS hA hE [0, 1] rfl (by decide) [0] rfl⟩ rfl rfl hl.1 rfl (lv_room (Nat.le_of_ble_eq_true rfl)) d_Big_shiftLeft_156 ⟨Nat.le_of_ble_eq_true rfl, Nat.le_of_ble_eq_true rfl⟩) hP hD hS hA [0, 1] [] rfl rfl (by decide) (by decide) (fun u H locs hw hP hD hS hK1 => ?_)
                  obtain ⟨k1, rfl⟩ : ∃ z, z = u := ⟨_, rfl⟩
                  have hP : va_P D vcl [(h, .inr (0, [.ref a, .int (nI k1)])), (a, .inl (cA, 96, .inl q))] H := hP
                  have hD : va_D A [(h, .inr (0, [.ref a, .int (nI k1)])), (a, .inl (cA, 96, .inl q))] := hD
                  exact rt_v hx hb hrt hlocks ((q, k1)) (⟨hw.1.trans (sh_bv hB.1 hz hs2), by have := hw.2.1; omega, hw.2.2⟩) (hP.sub [0, 1] rfl) (hK.sub [0] rfl) (hD.sub [0, 1] (by decide) rfl) hS d_Big_shiftLeft_159
                · have e126 : i < cn / 32 := Nat.lt_of_not_le (fun z => c126 ((nI_leI (by omega) (by omega)).mpr z))
                  refine lv_aload_n hx hb d_Big_shiftLeft_129 rfl (lv_at hl 0 rfl) ?_
                  refine va_get (D := D) (ci := 0) (v := .ref a) (C := R_Big) (T := F_Big) (N := 2) hx hb hts w_Big hown hK hP 0 rfl rfl 0 (by decide) (hts _ kF_Big_9) (fun _ h9 => h9) rfl d_Big_shiftLeft_130 ?_
                  refine lv_iload hx hb d_Big_shiftLeft_133 (lv_at hl 2 rfl) ?_
                  refine lv_iconst (v := 0) hx hb d_Big_shiftLeft_135 (by decide) ?_
                  refine va_iast hx hb hK hP hD hS 1 0 rfl rfl (i := nI i) (vp_in_nI (show i < 96 by omega) (by decide)) d_Big_shiftLeft_136 (fun H locs hP hD hS => ?_)
                  have hP : va_P D vcl [(h, .inr (0, [.ref a, .int (nI n)])), (a, .inl (cA, 96, .inl (upd q (nI i).toNatClampNeg 0)))] H := hP
                  have hD : va_D A [(h, .inr (0, [.ref a, .int (nI n)])), (a, .inl (cA, 96, .inl (upd q (nI i).toNatClampNeg 0)))] := hD
                  rw [show upd q (nI i).toNatClampNeg 0 = upd q i 0 from by rw [nI_clamp (by omega)]] at hP hD
                  refine lv_iinc (v := nI (i + 1)) (lv' := [(4, .int (nI (i + 1))), (0, .ref h), (2, .int (nI (cn / 32)))]) hx hb d_Big_shiftLeft_137 hl (k := 2) rfl (nI_1 i) (by decide) rfl (fun ls hl => ?_)
                  refine lv_goto (tgt := 123) hx hb d_Big_shiftLeft_140 (by decide) ?_
                  exact ih (i + 1) (upd q i 0) (by omega) (by omega) (fun j hj => by by_cases h9 : j = i; (· rw [h9, pk_us]); rw [pk_un h9]; exact hz j (by omega)) (fun j hj => by rw [pk_un (by omega)]; exact hs2 j hj) _ _ _ (hP.sub [0, 1] rfl) (hD.sub [0, 1] (by decide) rfl) hS (lv_sub hl [1, 2, 0] rfl)
            exact L123 (cn / 32 + 1) 0 g (by omega) (Nat.zero_le _) (fun j hj => absurd hj (Nat.not_lt_zero j)) (fun j hj => hs j (by omega) hj) _ _ _ (hP.sub [0, 1] rfl) (hD.sub [0, 1] (by decide) rfl) hS (lv_sub hl [1, 2, 0] rfl)
          · have e36 : 0 < k := Nat.pos_of_ne_zero (fun z => c36 ((nI_m1lt (by omega)).mpr z))
            have hhi : sh_hi f n (k - 1) < 4294967296 := by unfold sh_hi; split; (· exact w32_lt _); decide
            have hlo : sh_lo f (k - 1) < 4294967296 := by unfold sh_lo; split; (· exact w32_lt _); decide
            refine lv_iload hx hb d_Big_shiftLeft_39 (lv_at hl 3 rfl) ?_
            refine tv_i (nI (k - 1)) (nI_dec e36) ?_
            refine lv_aload_n hx hb d_Big_shiftLeft_41 rfl (lv_at hl 0 rfl) ?_
            refine va_get (D := D) (ci := 0) (v := .int (nI n)) (C := R_Big) (T := F_Big) (N := 2) hx hb hts w_Big hown hK hP 0 rfl rfl 1 (by decide) (hts _ kF_Big_13) (fun _ h9 => h9) rfl d_Big_shiftLeft_42 ?_
            refine lv_icmp_ge (tgt := 63) hx hb d_Big_shiftLeft_45 (by decide) (fun c45 => ?_) (fun c45 => ?_)
            · have e45 : n ≤ k - 1 := (nI_leI (by omega) (by omega)).mp c45
              refine lv_lconst (v := 0) hx hb d_Big_shiftLeft_63 (by decide) ?_
              refine tv_l (lN (sh_hi f n (k - 1))) (by unfold sh_hi; rw [if_neg (by omega)]; rfl) ?_
              refine lv_lstore (lv' := [(5, .long (lN (sh_hi f n (k - 1)))), (0, .ref h), (2, .int (nI (cn / 32))), (3, .int (nI (cn % 32))), (4, .int (nI k - 1))]) hx hb d_Big_shiftLeft_64 hl (by decide) rfl (fun ls hl => ?_)
              refine lv_iload hx hb d_Big_shiftLeft_66 (lv_at hl 4 rfl) ?_
              refine tv_i (nI (k - 1)) (nI_dec e36) ?_
              refine lv_if_le (tgt := 88) hx hb d_Big_shiftLeft_68 (by decide) (fun c68 => ?_) (fun c68 => ?_)
              · have e68 : k - 1 = 0 := (nI_le0 (by omega)).mp c68
                refine lv_lconst (v := 0) hx hb d_Big_shiftLeft_88 (by decide) ?_
                refine tv_l (lN (sh_lo f (k - 1))) (by unfold sh_lo; rw [if_neg (by omega)]; rfl) ?_
                refine lv_lstore (lv' := [(7, .long (lN (sh_lo f (k - 1)))), (5, .long (lN (sh_hi f n (k - 1)))), (0, .ref h), (2, .int (nI (cn / 32))), (3, .int (nI (cn % 32))), (4, .int (nI k - 1))]) hx hb d_Big_shiftLeft_89 hl (by decide) rfl (fun ls hl => ?_)
                refine lv_aload_n hx hb d_Big_shiftLeft_91 rfl (lv_at hl 2 rfl) ?_
                refine va_get (D := D) (ci := 0) (v := .ref a) (C := R_Big) (T := F_Big) (N := 2) hx hb hts w_Big hown hK hP 0 rfl rfl 0 (by decide) (hts _ kF_Big_9) (fun _ h9 => h9) rfl d_Big_shiftLeft_92 ?_
                refine lv_iload hx hb d_Big_shiftLeft_95 (lv_at hl 5 rfl) ?_
                refine tv_i (nI (k - 1)) (nI_dec e36) ?_
                refine lv_iload_n hx hb d_Big_shiftLeft_97 rfl (lv_at hl 3 rfl) ?_
                refine lv_iadd hx hb d_Big_shiftLeft_98 ?_
                refine tv_i (nI (k - 1 + cn / 32)) (nI_add _ _) ?_
                refine lv_lload hx hb d_Big_shiftLeft_99 (lv_at hl 1 rfl) ?_
                refine lv_bipush (v := 32) hx hb d_Big_shiftLeft_101 (by decide) ?_
                refine lv_lshl (v := lN (sh_hi f n (k - 1) * 4294967296)) hx hb d_Big_shiftLeft_103 (wb_shl _ (k := 32) (by decide)) ?_
                refine lv_lload hx hb d_Big_shiftLeft_104 (lv_at hl 0 rfl) ?_
                refine lv_lor hx hb d_Big_shiftLeft_106 ?_
                refine tv_l (lN (sh_hi f n (k - 1) * 4294967296 + sh_lo f (k - 1))) (or_l hlo hhi) ?_
                refine lv_iload_n hx hb d_Big_shiftLeft_107 rfl (lv_at hl 4 rfl) ?_
                refine lv_lshl (v := (lN (sh_hi f n (k - 1) * 4294967296 + sh_lo f (k - 1))) <<< ((nI (cn % 32)).toInt64 &&& 63)) hx hb d_Big_shiftLeft_108 (rfl) ?_
                refine lv_bipush (v := 32) hx hb d_Big_shiftLeft_109 (by decide) ?_
                refine lv_lushr (v := lN (sh_nw f n (cn % 32) (k - 1))) hx hb d_Big_shiftLeft_111 (sh_long (Nat.mod_lt _ (by decide))) ?_
                refine lv_l2i (v := (lN (sh_nw f n (cn % 32) (k - 1))).toInt32) hx hb d_Big_shiftLeft_112 (rfl) ?_
                refine tv_i (nI (sh_nw f n (cn % 32) (k - 1))) (lN_i _) ?_
                refine va_iast hx hb hK hP hD hS 1 0 rfl rfl (i := nI (k - 1 + cn / 32)) (vp_in_nI (show k - 1 + cn / 32 < 96 by omega) (by decide)) d_Big_shiftLeft_113 (fun H locs hP hD hS => ?_)
                have hP : va_P D vcl [(h, .inr (0, [.ref a, .int (nI n)])), (a, .inl (cA, 96, .inl (upd g (nI (k - 1 + cn / 32)).toNatClampNeg (nI (sh_nw f n (cn % 32) (k - 1))))))] H := hP
                have hD : va_D A [(h, .inr (0, [.ref a, .int (nI n)])), (a, .inl (cA, 96, .inl (upd g (nI (k - 1 + cn / 32)).toNatClampNeg (nI (sh_nw f n (cn % 32) (k - 1))))))] := hD
                rw [show upd g (nI (k - 1 + cn / 32)).toNatClampNeg (nI (sh_nw f n (cn % 32) (k - 1))) = upd g (k - 1 + cn / 32) (nI (sh_nw f n (cn % 32) (k - 1))) from by rw [nI_clamp (by omega)]] at hP hD
                refine lv_iinc (v := nI (k - 1) - 1) (lv' := [(4, .int (nI (k - 1) - 1)), (7, .long (lN (sh_lo f (k - 1)))), (5, .long (lN (sh_hi f n (k - 1)))), (0, .ref h), (2, .int (nI (cn / 32))), (3, .int (nI (cn % 32)))]) hx hb d_Big_shiftLeft_114 hl (k := 5) rfl (nI_dn e36) (by decide) rfl (fun ls hl => ?_)
                refine lv_goto (tgt := 34) hx hb d_Big_shiftLeft_117 (by decide) ?_
                exact ih (k - 1) (upd g (k - 1 + cn / 32) (nI (sh_nw f n (cn % 32) (k - 1)))) (by omega) (by omega) ((sh_step e36 hg hs).1) ((sh_step e36 hg hs).2) _ _ _ (hP.sub [0, 1] rfl) (hD.sub [0, 1] (by decide) rfl) hS (lv_sub hl [3, 4, 5, 0] rfl)
              · have e68 : 0 < k - 1 := Nat.pos_of_ne_zero (fun z => c68 ((nI_le0 (by omega)).mpr z))
                refine lv_aload_n hx hb d_Big_shiftLeft_71 rfl (lv_at hl 1 rfl) ?_
                refine va_get (D := D) (ci := 0) (v := .ref a) (C := R_Big) (T := F_Big) (N := 2) hx hb hts w_Big hown hK hP 0 rfl rfl 0 (by decide) (hts _ kF_Big_9) (fun _ h9 => h9) rfl d_Big_shiftLeft_72 ?_
                refine lv_iload hx hb d_Big_shiftLeft_75 (lv_at hl 4 rfl) ?_
                refine tv_i (nI (k - 1)) (nI_dec e36) ?_
                refine lv_iconst (v := 1) hx hb d_Big_shiftLeft_77 (by decide) ?_
                refine lv_isub hx hb d_Big_shiftLeft_78 ?_
                refine tv_i (nI (k - 1 - 1)) (nI_dec e68) ?_
                refine va_iald hx hb hK hP 1 0 rfl rfl (i := nI (k - 1 - 1)) (vp_in_nI (show k - 1 - 1 < 96 by omega) (by decide)) d_Big_shiftLeft_79 ?_
                refine tv_i (g (k - 1 - 1)) (by rw [nI_clamp (by omega)]) ?_
                refine lv_i2l (v := (g (k - 1 - 1)).toInt64) hx hb d_Big_shiftLeft_80 (rfl) ?_
                refine lv_ldc2 hx hb hown (hts _ kK_Big_20) d_Big_shiftLeft_81 ?_
                refine lv_land hx hb d_Big_shiftLeft_84 ?_
                refine tv_l (lN (sh_lo f (k - 1))) (by unfold sh_lo; rw [if_pos e68, ← hg (k - 1 - 1) (by omega)]; exact lim _) ?_
                refine lv_goto (tgt := 89) hx hb d_Big_shiftLeft_85 (by decide) ?_
                refine lv_lstore (lv' := [(7, .long (lN (sh_lo f (k - 1)))), (5, .long (lN (sh_hi f n (k - 1)))), (0, .ref h), (2, .int (nI (cn / 32))), (3, .int (nI (cn % 32))), (4, .int (nI k - 1))]) hx hb d_Big_shiftLeft_89 hl (by decide) rfl (fun ls hl => ?_)
                refine lv_aload_n hx hb d_Big_shiftLeft_91 rfl (lv_at hl 2 rfl) ?_
                refine va_get (D := D) (ci := 0) (v := .ref a) (C := R_Big) (T := F_Big) (N := 2) hx hb hts w_Big hown hK hP 0 rfl rfl 0 (by decide) (hts _ kF_Big_9) (fun _ h9 => h9) rfl d_Big_shiftLeft_92 ?_
                refine lv_iload hx hb d_Big_shiftLeft_95 (lv_at hl 5 rfl) ?_
                refine tv_i (nI (k - 1)) (nI_dec e36) ?_
                refine lv_iload_n hx hb d_Big_shiftLeft_97 rfl (lv_at hl 3 rfl) ?_
                refine lv_iadd hx hb d_Big_shiftLeft_98 ?_
                refine tv_i (nI (k - 1 + cn / 32)) (nI_add _ _) ?_
                refine lv_lload hx hb d_Big_shiftLeft_99 (lv_at hl 1 rfl) ?_
                refine lv_bipush (v := 32) hx hb d_Big_shiftLeft_101 (by decide) ?_
                refine lv_lshl (v := lN (sh_hi f n (k - 1) * 4294967296)) hx hb d_Big_shiftLeft_103 (wb_shl _ (k := 32) (by decide)) ?_
                refine lv_lload hx hb d_Big_shiftLeft_104 (lv_at hl 0 rfl) ?_
                refine lv_lor hx hb d_Big_shiftLeft_106 ?_
                refine tv_l (lN (sh_hi f n (k - 1) * 4294967296 + sh_lo f (k - 1))) (or_l hlo hhi) ?_
                refine lv_iload_n hx hb d_Big_shiftLeft_107 rfl (lv_at hl 4 rfl) ?_
                refine lv_lshl (v := (lN (sh_hi f n (k - 1) * 4294967296 + sh_lo f (k - 1))) <<< ((nI (cn % 32)).toInt64 &&& 63)) hx hb d_Big_shiftLeft_108 (rfl) ?_
                refine lv_bipush (v := 32) hx hb d_Big_shiftLeft_109 (by decide) ?_
                refine lv_lushr (v := lN (sh_nw f n (cn % 32) (k - 1))) hx hb d_Big_shiftLeft_111 (sh_long (Nat.mod_lt _ (by decide))) ?_
                refine lv_l2i (v := (lN (sh_nw f n (cn % 32) (k - 1))).toInt32) hx hb d_Big_shiftLeft_112 (rfl) ?_
                refine tv_i (nI (sh_nw f n (cn % 32) (k - 1))) (lN_i _) ?_
                refine va_iast hx hb hK hP hD hS 1 0 rfl rfl (i := nI (k - 1 + cn / 32)) (vp_in_nI (show k - 1 + cn / 32 < 96 by omega) (by decide)) d_Big_shiftLeft_113 (fun H locs hP hD hS => ?_)
                have hP : va_P D vcl [(h, .inr (0, [.ref a, .int (nI n)])), (a, .inl (cA, 96, .inl (upd g (nI (k - 1 + cn / 32)).toNatClampNeg (nI (sh_nw f n (cn % 32) (k - 1))))))] H := hP
                have hD : va_D A [(h, .inr (0, [.ref a, .int (nI n)])), (a, .inl (cA, 96, .inl (upd g (nI (k - 1 + cn / 32)).toNatClampNeg (nI (sh_nw f n (cn % 32) (k - 1))))))] := hD
                rw [show upd g (nI (k - 1 + cn / 32)).toNatClampNeg (nI (sh_nw f n (cn % 32) (k - 1))) = upd g (k - 1 + cn / 32) (nI (sh_nw f n (cn % 32) (k - 1))) from by rw [nI_clamp (by omega)]] at hP hD
                refine lv_iinc (v := nI (k - 1) - 1) (lv' := [(4, .int (nI (k - 1) - 1)), (7, .long (lN (sh_lo f (k - 1)))), (5, .long (lN (sh_hi f n (k - 1)))), (0, .ref h), (2, .int (nI (cn / 32))), (3, .int (nI (cn % 32)))]) hx hb d_Big_shiftLeft_114 hl (k := 5) rfl (nI_dn e36) (by decide) rfl (fun ls hl => ?_)
                refine lv_goto (tgt := 34) hx hb d_Big_shiftLeft_117 (by decide) ?_
                exact ih (k - 1) (upd g (k - 1 + cn / 32) (nI (sh_nw f n (cn % 32) (k - 1)))) (by omega) (by omega) ((sh_step e36 hg hs).1) ((sh_step e36 hg hs).2) _ _ _ (hP.sub [0, 1] rfl) (hD.sub [0, 1] (by decide) rfl) hS (lv_sub hl [3, 4, 5, 0] rfl)
            · have e45 : k - 1 < n := Nat.lt_of_not_le (fun z => c45 ((nI_leI (by omega) (by omega)).mpr z))
              refine lv_aload_n hx hb d_Big_shiftLeft_48 rfl (lv_at hl 0 rfl) ?_
              refine va_get (D := D) (ci := 0) (v := .ref a) (C := R_Big) (T := F_Big) (N := 2) hx hb hts w_Big hown hK hP 0 rfl rfl 0 (by decide) (hts _ kF_Big_9) (fun _ h9 => h9) rfl d_Big_shiftLeft_49 ?_
              refine lv_iload hx hb d_Big_shiftLeft_52 (lv_at hl 3 rfl) ?_
              refine tv_i (nI (k - 1)) (nI_dec e36) ?_
              refine va_iald hx hb hK hP 1 0 rfl rfl (i := nI (k - 1)) (vp_in_nI (show k - 1 < 96 by omega) (by decide)) d_Big_shiftLeft_54 ?_
              refine tv_i (g (k - 1)) (by rw [nI_clamp (by omega)]) ?_
              refine lv_i2l (v := (g (k - 1)).toInt64) hx hb d_Big_shiftLeft_55 (rfl) ?_
              refine lv_ldc2 hx hb hown (hts _ kK_Big_20) d_Big_shiftLeft_56 ?_
              refine lv_land hx hb d_Big_shiftLeft_59 ?_
              refine tv_l (lN (sh_hi f n (k - 1))) (by unfold sh_hi; rw [if_pos e45, ← hg (k - 1) (by omega)]; exact lim _) ?_
              refine lv_goto (tgt := 64) hx hb d_Big_shiftLeft_60 (by decide) ?_
              refine lv_lstore (lv' := [(5, .long (lN (sh_hi f n (k - 1)))), (0, .ref h), (2, .int (nI (cn / 32))), (3, .int (nI (cn % 32))), (4, .int (nI k - 1))]) hx hb d_Big_shiftLeft_64 hl (by decide) rfl (fun ls hl => ?_)
              refine lv_iload hx hb d_Big_shiftLeft_66 (lv_at hl 4 rfl) ?_
              refine tv_i (nI (k - 1)) (nI_dec e36) ?_
              refine lv_if_le (tgt := 88) hx hb d_Big_shiftLeft_68 (by decide) (fun c68 => ?_) (fun c68 => ?_)
              · have e68 : k - 1 = 0 := (nI_le0 (by omega)).mp c68
                refine lv_lconst (v := 0) hx hb d_Big_shiftLeft_88 (by decide) ?_
                refine tv_l (lN (sh_lo f (k - 1))) (by unfold sh_lo; rw [if_neg (by omega)]; rfl) ?_
                refine lv_lstore (lv' := [(7, .long (lN (sh_lo f (k - 1)))), (5, .long (lN (sh_hi f n (k - 1)))), (0, .ref h), (2, .int (nI (cn / 32))), (3, .int (nI (cn % 32))), (4, .int (nI k - 1))]) hx hb d_Big_shiftLeft_89 hl (by decide) rfl (fun ls hl => ?_)
                refine lv_aload_n hx hb d_Big_shiftLeft_91 rfl (lv_at hl 2 rfl) ?_
                refine va_get (D := D) (ci := 0) (v := .ref a) (C := R_Big) (T := F_Big) (N := 2) hx hb hts w_Big hown hK hP 0 rfl rfl 0 (by decide) (hts _ kF_Big_9) (fun _ h9 => h9) rfl d_Big_shiftLeft_92 ?_
                refine lv_iload hx hb d_Big_shiftLeft_95 (lv_at hl 5 rfl) ?_
                refine tv_i (nI (k - 1)) (nI_dec e36) ?_
                refine lv_iload_n hx hb d_Big_shiftLeft_97 rfl (lv_at hl 3 rfl) ?_
                refine lv_iadd hx hb d_Big_shiftLeft_98 ?_
                refine tv_i (nI (k - 1 + cn / 32)) (nI_add _ _) ?_
                refine lv_lload hx hb d_Big_shiftLeft_99 (lv_at hl 1 rfl) ?_
                refine lv_bipush (v := 32) hx hb d_Big_shiftLeft_101 (by decide) ?_
                refine lv_lshl (v := lN (sh_hi f n (k - 1) * 4294967296)) hx hb d_Big_shiftLeft_103 (wb_shl _ (k := 32) (by decide)) ?_
                refine lv_lload hx hb d_Big_shiftLeft_104 (lv_at hl 0 rfl) ?_
                refine lv_lor hx hb d_Big_shiftLeft_106 ?_
                refine tv_l (lN (sh_hi f n (k - 1) * 4294967296 + sh_lo f (k - 1))) (or_l hlo hhi) ?_
                refine lv_iload_n hx hb d_Big_shiftLeft_107 rfl (lv_at hl 4 rfl) ?_
                refine lv_lshl (v := (lN (sh_hi f n (k - 1) * 4294967296 + sh_lo f (k - 1))) <<< ((nI (cn % 32)).toInt64 &&& 63)) hx hb d_Big_shiftLeft_108 (rfl) ?_
                refine lv_bipush (v := 32) hx hb d_Big_shiftLeft_109 (by decide) ?_
                refine lv_lushr (v := lN (sh_nw f n (cn % 32) (k - 1))) hx hb d_Big_shiftLeft_111 (sh_long (Nat.mod_lt _ (by decide))) ?_
                refine lv_l2i (v := (lN (sh_nw f n (cn % 32) (k - 1))).toInt32) hx hb d_Big_shiftLeft_112 (rfl) ?_
                refine tv_i (nI (sh_nw f n (cn % 32) (k - 1))) (lN_i _) ?_
                refine va_iast hx hb hK hP hD hS 1 0 rfl rfl (i := nI (k - 1 + cn / 32)) (vp_in_nI (show k - 1 + cn / 32 < 96 by omega) (by decide)) d_Big_shiftLeft_113 (fun H locs hP hD hS => ?_)
                have hP : va_P D vcl [(h, .inr (0, [.ref a, .int (nI n)])), (a, .inl (cA, 96, .inl (upd g (nI (k - 1 + cn / 32)).toNatClampNeg (nI (sh_nw f n (cn % 32) (k - 1))))))] H := hP
                have hD : va_D A [(h, .inr (0, [.ref a, .int (nI n)])), (a, .inl (cA, 96, .inl (upd g (nI (k - 1 + cn / 32)).toNatClampNeg (nI (sh_nw f n (cn % 32) (k - 1))))))] := hD
                rw [show upd g (nI (k - 1 + cn / 32)).toNatClampNeg (nI (sh_nw f n (cn % 32) (k - 1))) = upd g (k - 1 + cn / 32) (nI (sh_nw f n (cn % 32) (k - 1))) from by rw [nI_clamp (by omega)]] at hP hD
                refine lv_iinc (v := nI (k - 1) - 1) (lv' := [(4, .int (nI (k - 1) - 1)), (7, .long (lN (sh_lo f (k - 1)))), (5, .long (lN (sh_hi f n (k - 1)))), (0, .ref h), (2, .int (nI (cn / 32))), (3, .int (nI (cn % 32)))]) hx hb d_Big_shiftLeft_114 hl (k := 5) rfl (nI_dn e36) (by decide) rfl (fun ls hl => ?_)
                refine lv_goto (tgt := 34) hx hb d_Big_shiftLeft_117 (by decide) ?_
                exact ih (k - 1) (upd g (k - 1 + cn / 32) (nI (sh_nw f n (cn % 32) (k - 1)))) (by omega) (by omega) ((sh_step e36 hg hs).1) ((sh_step e36 hg hs).2) _ _ _ (hP.sub [0, 1] rfl) (hD.sub [0, 1] (by decide) rfl) hS (lv_sub hl [3, 4, 5, 0] rfl)
              · have e68 : 0 < k - 1 := Nat.pos_of_ne_zero (fun z => c68 ((nI_le0 (by omega)).mpr z))
                refine lv_aload_n hx hb d_Big_shiftLeft_71 rfl (lv_at hl 1 rfl) ?_
                refine va_get (D := D) (ci := 0) (v := .ref a) (C := R_Big) (T := F_Big) (N := 2) hx hb hts w_Big hown hK hP 0 rfl rfl 0 (by decide) (hts _ kF_Big_9) (fun _ h9 => h9) rfl d_Big_shiftLeft_72 ?_
                refine lv_iload hx hb d_Big_shiftLeft_75 (lv_at hl 4 rfl) ?_
                refine tv_i (nI (k - 1)) (nI_dec e36) ?_
                refine lv_iconst (v := 1) hx hb d_Big_shiftLeft_77 (by decide) ?_
                refine lv_isub hx hb d_Big_shiftLeft_78 ?_
                refine tv_i (nI (k - 1 - 1)) (nI_dec e68) ?_
                refine va_iald hx hb hK hP 1 0 rfl rfl (i := nI (k - 1 - 1)) (vp_in_nI (show k - 1 - 1 < 96 by omega) (by decide)) d_Big_shiftLeft_79 ?_
                refine tv_i (g (k - 1 - 1)) (by rw [nI_clamp (by omega)]) ?_
                refine lv_i2l (v := (g (k - 1 - 1)).toInt64) hx hb d_Big_shiftLeft_80 (rfl) ?_
                refine lv_ldc2 hx hb hown (hts _ kK_Big_20) d_Big_shiftLeft_81 ?_
                refine lv_land hx hb d_Big_shiftLeft_84 ?_
                refine tv_l (lN (sh_lo f (k - 1))) (by unfold sh_lo; rw [if_pos e68, ← hg (k - 1 - 1) (by omega)]; exact lim _) ?_
                refine lv_goto (tgt := 89) hx hb d_Big_shiftLeft_85 (by decide) ?_
                refine lv_lstore (lv' := [(7, .long (lN (sh_lo f (k - 1)))), (5, .long (lN (sh_hi f n (k - 1)))), (0, .ref h), (2, .int (nI (cn / 32))), (3, .int (nI (cn % 32))), (4, .int (nI k - 1))]) hx hb d_Big_shiftLeft_89 hl (by decide) rfl (fun ls hl => ?_)
                refine lv_aload_n hx hb d_Big_shiftLeft_91 rfl (lv_at hl 2 rfl) ?_
                refine va_get (D := D) (ci := 0) (v := .ref a) (C := R_Big) (T := F_Big) (N := 2) hx hb hts w_Big hown hK hP 0 rfl rfl 0 (by decide) (hts _ kF_Big_9) (fun _ h9 => h9) rfl d_Big_shiftLeft_92 ?_
                refine lv_iload hx hb d_Big_shiftLeft_95 (lv_at hl 5 rfl) ?_
                refine tv_i (nI (k - 1)) (nI_dec e36) ?_
                refine lv_iload_n hx hb d_Big_shiftLeft_97 rfl (lv_at hl 3 rfl) ?_
                refine lv_iadd hx hb d_Big_shiftLeft_98 ?_
                refine tv_i (nI (k - 1 + cn / 32)) (nI_add _ _) ?_
                refine lv_lload hx hb d_Big_shiftLeft_99 (lv_at hl 1 rfl) ?_
                refine lv_bipush (v := 32) hx hb d_Big_shiftLeft_101 (by decide) ?_
                refine lv_lshl (v := lN (sh_hi f n (k - 1) * 4294967296)) hx hb d_Big_shiftLeft_103 (wb_shl _ (k := 32) (by decide)) ?_
                refine lv_lload hx hb d_Big_shiftLeft_104 (lv_at hl 0 rfl) ?_
                refine lv_lor hx hb d_Big_shiftLeft_106 ?_
                refine tv_l (lN (sh_hi f n (k - 1) * 4294967296 + sh_lo f (k - 1))) (or_l hlo hhi) ?_
                refine lv_iload_n hx hb d_Big_shiftLeft_107 rfl (lv_at hl 4 rfl) ?_
                refine lv_lshl (v := (lN (sh_hi f n (k - 1) * 4294967296 + sh_lo f (k - 1))) <<< ((nI (cn % 32)).toInt64 &&& 63)) hx hb d_Big_shiftLeft_108 (rfl) ?_
                refine lv_bipush (v := 32) hx hb d_Big_shiftLeft_109 (by decide) ?_
                refine lv_lushr (v := lN (sh_nw f n (cn % 32) (k - 1))) hx hb d_Big_shiftLeft_111 (sh_long (Nat.mod_lt _ (by decide))) ?_
                refine lv_l2i (v := (lN (sh_nw f n (cn % 32) (k - 1))).toInt32) hx hb d_Big_shiftLeft_112 (rfl) ?_
                refine tv_i (nI (sh_nw f n (cn % 32) (k - 1))) (lN_i _) ?_
                refine va_iast hx hb hK hP hD hS 1 0 rfl rfl (i := nI (k - 1 + cn / 32)) (vp_in_nI (show k - 1 + cn / 32 < 96 by omega) (by decide)) d_Big_shiftLeft_113 (fun H locs hP hD hS => ?_)
                have hP : va_P D vcl [(h, .inr (0, [.ref a, .int (nI n)])), (a, .inl (cA, 96, .inl (upd g (nI (k - 1 + cn / 32)).toNatClampNeg (nI (sh_nw f n (cn % 32) (k - 1))))))] H := hP
                have hD : va_D A [(h, .inr (0, [.ref a, .int (nI n)])), (a, .inl (cA, 96, .inl (upd g (nI (k - 1 + cn / 32)).toNatClampNeg (nI (sh_nw f n (cn % 32) (k - 1))))))] := hD
                rw [show upd g (nI (k - 1 + cn / 32)).toNatClampNeg (nI (sh_nw f n (cn % 32) (k - 1))) = upd g (k - 1 + cn / 32) (nI (sh_nw f n (cn % 32) (k - 1))) from by rw [nI_clamp (by omega)]] at hP hD
                refine lv_iinc (v := nI (k - 1) - 1) (lv' := [(4, .int (nI (k - 1) - 1)), (7, .long (lN (sh_lo f (k - 1)))), (5, .long (lN (sh_hi f n (k - 1)))), (0, .ref h), (2, .int (nI (cn / 32))), (3, .int (nI (cn % 32)))]) hx hb d_Big_shiftLeft_114 hl (k := 5) rfl (nI_dn e36) (by decide) rfl (fun ls hl => ?_)
                refine lv_goto (tgt := 34) hx hb d_Big_shiftLeft_117 (by decide) ?_
                exact ih (k - 1) (upd g (k - 1 + cn / 32) (nI (sh_nw f n (cn % 32) (k - 1)))) (by omega) (by omega) ((sh_step e36 hg hs).1) ((sh_step e36 hg hs).2) _ _ _ (hP.sub [0, 1] rfl) (hD.sub [0, 1] (by decide) rfl) hS (lv_sub hl [3, 4, 5, 0] rfl)
      exact L34 (n + 2) (n + 1) f (by omega) (Nat.le_refl _) (fun _ _ => rfl) (fun j h1 h2 => absurd h2 (by omega)) _ _ _ (hP.sub [0, 1] rfl) (hD.sub [0, 1] (by decide) rfl) hS (lv_sub hl [3, 2, 1, 0] rfl)
    · exact absurd ((nI_ltI (b := 96) (by omega) (by decide)).mpr hfit) c24
