set_option maxHeartbeats 4000000 in
set_option maxRecDepth 100000 in
theorem c_Big_dropZeros (l : Launch) (D : va_G) (E : evD) (h a : Nat) (cA : ClassId) (f : Nat → Int32) (n : Nat) (hn : n ≤ 96) : Cv (S := Nat) l y_Big_dropZeros (wz y_Big_dropZeros b_Big_dropZeros 1 none) ({ frames := 0, cells := 0, slots := 0, locals := 0 }) D vcl (ev1 E) [.ref h] [(cA, .int)] [(h, .inr (0, [.ref a, .int (nI n)])), (a, .inl (cA, 96, .inl f))] 0 0 (fun u : Nat => bv f u = bv f n ∧ u ≤ n ∧ (u = 0 ∨ f (u - 1) ≠ 0)) (fun _ => [(cA, .int)]) (fun u : Nat => [(h, .inr (0, [.ref a, .int (nI u)])), (a, .inl (cA, 96, .inl f))]) := by
  have hev := ev1_ok E
  unfold Cv
  refine ct_of (y := y_Big_dropZeros) (av := [.ref h]) (cc := b_Big_dropZeros) (maxL := 1) (ret := none) (Qc := fun A => va_Qv (S := Nat) (fun u : Nat => bv f u = bv f n ∧ u ≤ n ∧ (u = 0 ∨ f (u - 1) ≠ 0)) (fun u tS => ctB D vcl ((fun _ => [(cA, .int)]) u) ((fun u : Nat => [(h, .inr (0, [.ref a, .int (nI u)])), (a, .inl (cA, 96, .inl f))]) u) A tS) A) (by decide) rfl (Nat.le_of_ble_eq_true rfl) ?_
  intro p ee s m below meth cde ls A H locs hx hb hml hrt hlocks hown hin hts hA hP hK hD hS hE hl
  have hown : s.vm.findClass R_Big = some m.cls := hown
  have hts := wz_g hts
  have hl : lv_has ls 1 [(0, .ref h)] := hl
  have L0 : ∀ (kk : Nat) (k : Nat), k < kk → (k ≤ n) → (bv f k = bv f n) → ∀ (H : Heap) (locs : List Loc) (ls : Array Slot), va_P D vcl [(h, .inr (0, [.ref a, .int (nI k)])), (a, .inl (cA, 96, .inl f))] H → va_D A [(h, .inr (0, [.ref a, .int (nI k)])), (a, .inl (cA, 96, .inl f))] → va_S A s.heap H locs → lv_has ls 1 [(0, .ref h)] → W p l ee ({ frames := 0, cells := 0, slots := 0, locals := 0 }) s m ([.ref h] : List Value).toArray below meth cde H locs 0 0 (MQ below (va_Qv (S := Nat) (fun u : Nat => bv f u = bv f n ∧ u ≤ n ∧ (u = 0 ∨ f (u - 1) ≠ 0)) (fun u tS => ctB D vcl ((fun _ => [(cA, .int)]) u) ((fun u : Nat => [(h, .inr (0, [.ref a, .int (nI u)])), (a, .inl (cA, 96, .inl f))]) u) A tS) A) ([.ref h] : List Value).toArray s 0 0 A) (F0 m 0 ls []) := by
    intro kk
    induction kk with
    | zero => intro k hmz; exact absurd hmz (Nat.not_lt_zero _)
    | succ kk ih =>
      intro k hmz hk hv H locs ls hP hD hS hl
      refine lv_aload_n hx hb d_Big_dropZeros_0 rfl (lv_at hl 0 rfl) ?_
      refine va_get (D := D) (ci := 0) (v := .int (nI k)) (C := R_Big) (T := F_Big) (N := 2) hx hb hts w_Big hown hK hP 0 rfl rfl 1 (by decide) (hts _ kF_Big_13) (fun _ h9 => h9) rfl d_Big_dropZeros_1 ?_
      refine lv_if_le (tgt := 34) hx hb d_Big_dropZeros_4 (by decide) (fun c4 => ?_) (fun c4 => ?_)
      · have e4 : k = 0 := (nI_le0 (by omega)).mp c4
        exact rt_v hx hb hrt hlocks (k) (⟨hv, hk, Or.inl e4⟩) (hP.sub [0, 1] rfl) (hK.sub [0] rfl) (hD.sub [0, 1] (by decide) rfl) hS d_Big_dropZeros_34
      · have e4 : 0 < k := Nat.pos_of_ne_zero (fun z => c4 ((nI_le0 (by omega)).mpr z))
        refine lv_aload_n hx hb d_Big_dropZeros_7 rfl (lv_at hl 0 rfl) ?_
        refine va_get (D := D) (ci := 0) (v := .ref a) (C := R_Big) (T := F_Big) (N := 2) hx hb hts w_Big hown hK hP 0 rfl rfl 0 (by decide) (hts _ kF_Big_9) (fun _ h9 => h9) rfl d_Big_dropZeros_8 ?_
        refine lv_aload_n hx hb d_Big_dropZeros_11 rfl (lv_at hl 0 rfl) ?_
        refine va_get (D := D) (ci := 0) (v := .int (nI k)) (C := R_Big) (T := F_Big) (N := 2) hx hb hts w_Big hown hK hP 0 rfl rfl 1 (by decide) (hts _ kF_Big_13) (fun _ h9 => h9) rfl d_Big_dropZeros_12 ?_
        refine lv_iconst (v := 1) hx hb d_Big_dropZeros_15 (by decide) ?_
        refine lv_isub hx hb d_Big_dropZeros_16 ?_
        refine tv_i (nI (k - 1)) (nI_dec e4) ?_
        refine va_iald hx hb hK hP 1 0 rfl rfl (i := nI (k - 1)) (vp_in_nI (show k - 1 < 96 by omega) (by decide)) d_Big_dropZeros_17 ?_
        refine tv_i (f (k - 1)) (by rw [nI_clamp (by omega)]) ?_
        refine lv_if_ne (tgt := 34) hx hb d_Big_dropZeros_18 (by decide) (fun c18 => ?_) (fun c18 => ?_)
        · exact rt_v hx hb hrt hlocks (k) (⟨hv, hk, Or.inr c18⟩) (hP.sub [0, 1] rfl) (hK.sub [0] rfl) (hD.sub [0, 1] (by decide) rfl) hS d_Big_dropZeros_34
        · refine lv_aload_n hx hb d_Big_dropZeros_21 rfl (lv_at hl 0 rfl) ?_
          refine lv_dup hx hb d_Big_dropZeros_22 rfl ?_
          refine va_get (D := D) (ci := 0) (v := .int (nI k)) (C := R_Big) (T := F_Big) (N := 2) hx hb hts w_Big hown hK hP 0 rfl rfl 1 (by decide) (hts _ kF_Big_13) (fun _ h9 => h9) rfl d_Big_dropZeros_23 ?_
          refine lv_iconst (v := 1) hx hb d_Big_dropZeros_26 (by decide) ?_
          refine lv_isub hx hb d_Big_dropZeros_27 ?_
          refine tv_i (nI (k - 1)) (nI_dec e4) ?_
          refine va_put (D := D) (ci := 0) (v := .int (nI (k - 1))) (ty := .int) (C := R_Big) (T := F_Big) (N := 2) hx hb hts w_Big t_Big tk_Big n_Big hown hK hP hD hS 0 rfl rfl 1 (by decide) (hts _ kF_Big_13) (fun _ h9 => h9) rfl (by decide +kernel) (rfl) (rfl) (Nat.le_of_ble_eq_true rfl) d_Big_dropZeros_28 (fun H locs hP hD hS => ?_)
          have hP : va_P D vcl [(h, .inr (0, [.ref a, .int (nI (k - 1))])), (a, .inl (cA, 96, .inl f))] H := hP
          have hD : va_D A [(h, .inr (0, [.ref a, .int (nI (k - 1))])), (a, .inl (cA, 96, .inl f))] := hD
          refine lv_goto (tgt := 0) hx hb d_Big_dropZeros_31 (by decide) ?_
          exact ih (k - 1) (by omega) (by omega) (by have h9 := dz_step (f := f) (n := k - 1) c18; rw [show k - 1 + 1 = k by omega] at h9; rw [← h9]; exact hv) _ _ _ (hP.sub [0, 1] rfl) (hD.sub [0, 1] (by decide) rfl) hS (lv_sub hl [0] rfl)
  exact L0 (n + 1) n (by omega) (Nat.le_refl n) (rfl) _ _ _ (hP.sub [0, 1] rfl) (hD.sub [0, 1] (by decide) rfl) hS (lv_sub hl [0] rfl)

set_option maxHeartbeats 4000000 in
set_option maxRecDepth 100000 in
theorem c_Big_isZero (l : Launch) (D : va_G) (E : evD) (h a : Nat) (cA : ClassId) (f : Nat → Int32) (n : Nat) (V : Nat) (hB : isB f n V) : Ci (S := Unit) l y_Big_isZero (wz y_Big_isZero b_Big_isZero 1 (some .boolean)) ({ frames := 0, cells := 0, slots := 0, locals := 0 }) D vcl (ev1 E) [.ref h] [(cA, .int)] [(h, .inr (0, [.ref a, .int (nI n)])), (a, .inl (cA, 96, .inl f))] 0 0 (fun (r : Int32) (_ : Unit) => (r = 1 ∨ r = 0) ∧ (r = 1 ↔ V = 0)) (fun _ => [(cA, .int)]) (fun _ : Unit => [(h, .inr (0, [.ref a, .int (nI n)])), (a, .inl (cA, 96, .inl f))]) := by
  have hev := ev1_ok E
  unfold Ci
  refine ct_of (y := y_Big_isZero) (av := [.ref h]) (cc := b_Big_isZero) (maxL := 1) (ret := (some .boolean)) (Qc := fun A => va_Qi (S := Unit) (fun (r : Int32) (_ : Unit) => (r = 1 ∨ r = 0) ∧ (r = 1 ↔ V = 0)) (fun u tS => ctB D vcl ((fun _ => [(cA, .int)]) u) ((fun _ : Unit => [(h, .inr (0, [.ref a, .int (nI n)])), (a, .inl (cA, 96, .inl f))]) u) A tS) A) (by decide) rfl (Nat.le_of_ble_eq_true rfl) ?_
  intro p ee s m below meth cde ls A H locs hx hb hml hrt hlocks hown hin hts hA hP hK hD hS hE hl
  have hown : s.vm.findClass R_Big = some m.cls := hown
  have hts := wz_g hts
  have hl : lv_has ls 1 [(0, .ref h)] := hl
  refine lv_aload_n hx hb d_Big_isZero_0 rfl (lv_at hl 0 rfl) ?_
  refine va_get (D := D) (ci := 0) (v := .int (nI n)) (C := R_Big) (T := F_Big) (N := 2) hx hb hts w_Big hown hK hP 0 rfl rfl 1 (by decide) (hts _ kF_Big_13) (fun _ h9 => h9) rfl d_Big_isZero_1 ?_
  refine lv_if_ne (tgt := 11) hx hb d_Big_isZero_4 (by decide) (fun c4 => ?_) (fun c4 => ?_)
  · refine lv_iconst (v := 0) hx hb d_Big_isZero_11 (by decide) ?_
    exact rt_i hx hb hrt hlocks (rfl) (()) (⟨Or.inr rfl, iff_of_false (by decide) (fun z => c4 ((nI_eq0 (by have := hB.2.1; omega)).mpr ((isB_0 hB).mpr z)))⟩) (hP.sub [0, 1] rfl) (hK.sub [0] rfl) (hD.sub [0, 1] (by decide) rfl) hS d_Big_isZero_12
  · refine lv_iconst (v := 1) hx hb d_Big_isZero_7 (by decide) ?_
    refine lv_goto (tgt := 12) hx hb d_Big_isZero_8 (by decide) ?_
    exact rt_i hx hb hrt hlocks (rfl) (()) (⟨Or.inl rfl, iff_of_true rfl ((isB_0 hB).mp ((nI_eq0 (by have := hB.2.1; omega)).mp c4))⟩) (hP.sub [0, 1] rfl) (hK.sub [0] rfl) (hD.sub [0, 1] (by decide) rfl) hS d_Big_isZero_12

set_option maxHeartbeats 4000000 in
set_option maxRecDepth 100000 in
theorem c_Big_timesPlus (l : Launch) (D : va_G) (E : evD) (h a : Nat) (cA : ClassId) (f : Nat → Int32) (n : Nat) (V k mo : Nat) (hB : isB f n V) (hk0 : 0 < k) (hk1 : k < 2147483648) (hm : mo < 2147483648) (hfit : V * k + mo < pw 96) : Cv (S := (Nat → Int32) × Nat) l y_Big_timesPlus (wz y_Big_timesPlus b_Big_timesPlus 6 none) ({ frames := 0, cells := 0, slots := 0, locals := 0 }) D vcl (ev1 E) [.ref h, .int (nI k), .int (nI mo)] [(cA, .int)] [(h, .inr (0, [.ref a, .int (nI n)])), (a, .inl (cA, 96, .inl f))] 0 0 (fun u : (Nat → Int32) × Nat => isB u.1 u.2 (V * k + mo)) (fun _ => [(cA, .int)]) (fun u : (Nat → Int32) × Nat => [(h, .inr (0, [.ref a, .int (nI u.2)])), (a, .inl (cA, 96, .inl u.1))]) := by
  have hev := ev1_ok E
  unfold Cv
  refine ct_of (y := y_Big_timesPlus) (av := [.ref h, .int (nI k), .int (nI mo)]) (cc := b_Big_timesPlus) (maxL := 6) (ret := none) (Qc := fun A => va_Qv (S := (Nat → Int32) × Nat) (fun u : (Nat → Int32) × Nat => isB u.1 u.2 (V * k + mo)) (fun u tS => ctB D vcl ((fun _ => [(cA, .int)]) u) ((fun u : (Nat → Int32) × Nat => [(h, .inr (0, [.ref a, .int (nI u.2)])), (a, .inl (cA, 96, .inl u.1))]) u) A tS) A) (by decide) rfl (Nat.le_of_ble_eq_true rfl) ?_
  intro p ee s m below meth cde ls A H locs hx hb hml hrt hlocks hown hin hts hA hP hK hD hS hE hl
  have hown : s.vm.findClass R_Big = some m.cls := hown
  have hts := wz_g hts
  have hl : lv_has ls 6 [(0, .ref h), (1, .int (nI k)), (2, .int (nI mo))] := hl
  have hn96 := hB.2.1
  refine lv_iload_n hx hb d_Big_timesPlus_0 rfl (lv_at hl 2 rfl) ?_
  refine lv_i2l (v := (nI mo).toInt64) hx hb d_Big_timesPlus_1 (rfl) ?_
  refine tv_l (lN mo) (nI_l hm) ?_
  refine lv_lstore_n (lv' := [(3, .long (lN mo)), (0, .ref h), (1, .int (nI k)), (2, .int (nI mo))]) hx hb d_Big_timesPlus_2 rfl hl (by decide) rfl (fun ls hl => ?_)
  refine lv_iconst (v := 0) hx hb d_Big_timesPlus_3 (by decide) ?_
  refine lv_istore (lv' := [(5, .int 0), (3, .long (lN mo)), (0, .ref h), (1, .int (nI k)), (2, .int (nI mo))]) hx hb d_Big_timesPlus_4 hl (by decide) rfl (fun ls hl => ?_)
  have L6 : ∀ (kk : Nat) (i : Nat) (cy : Nat) (g : Nat → Int32), n - i < kk → (i ≤ n) → (cy < 2147483648) → (∀ j, i ≤ j → g j = f j) → (bv g i + cy * pw i = bv f i * k + mo) → ∀ (H : Heap) (locs : List Loc) (ls : Array Slot), va_P D vcl [(h, .inr (0, [.ref a, .int (nI n)])), (a, .inl (cA, 96, .inl g))] H → va_D A [(h, .inr (0, [.ref a, .int (nI n)])), (a, .inl (cA, 96, .inl g))] → va_S A s.heap H locs → lv_has ls 6 [(0, .ref h), (1, .int (nI k)), (3, .long (lN cy)), (5, .int (nI i))] → W p l ee ({ frames := 0, cells := 0, slots := 0, locals := 0 }) s m ([.ref h, .int (nI k), .int (nI mo)] : List Value).toArray below meth cde H locs 0 0 (MQ below (va_Qv (S := (Nat → Int32) × Nat) (fun u : (Nat → Int32) × Nat => isB u.1 u.2 (V * k + mo)) (fun u tS => ctB D vcl ((fun _ => [(cA, .int)]) u) ((fun u : (Nat → Int32) × Nat => [(h, .inr (0, [.ref a, .int (nI u.2)])), (a, .inl (cA, 96, .inl u.1))]) u) A tS) A) ([.ref h, .int (nI k), .int (nI mo)] : List Value).toArray s 0 0 A) (F0 m 6 ls []) := by
    intro kk
    induction kk with
    | zero => intro i cy g hmz; exact absurd hmz (Nat.not_lt_zero _)
    | succ kk ih =>
      intro i cy g hmz hi hc hg hv H locs ls hP hD hS hl
      refine lv_iload hx hb d_Big_timesPlus_6 (lv_at hl 3 rfl) ?_
      refine lv_aload_n hx hb d_Big_timesPlus_8 rfl (lv_at hl 0 rfl) ?_
      refine va_get (D := D) (ci := 0) (v := .int (nI n)) (C := R_Big) (T := F_Big) (N := 2) hx hb hts w_Big hown hK hP 0 rfl rfl 1 (by decide) (hts _ kF_Big_13) (fun _ h9 => h9) rfl d_Big_timesPlus_9 ?_
      refine lv_icmp_ge (tgt := 53) hx hb d_Big_timesPlus_12 (by decide) (fun c12 => ?_) (fun c12 => ?_)
      · have e12 : i = n := by have := (nI_leI (by omega) (by omega)).mp c12; omega
        rw [e12] at hv
        obtain ⟨hz, hnz⟩ := tp_end hB hk0 (by rw [← hB.1]; exact hv) (by omega) hfit
        refine lv_lload_n hx hb d_Big_timesPlus_53 rfl (lv_at hl 2 rfl) ?_
        refine lv_lconst (v := 0) hx hb d_Big_timesPlus_54 (by decide) ?_
        refine W.lcmp hx hb d_Big_timesPlus_55 ?_
        refine lv_if_eq (tgt := 92) hx hb d_Big_timesPlus_56 (by decide) (fun c56 => ?_) (fun c56 => ?_)
        · have e56 : cy = 0 := (lN_ne0 (by omega)).mp ((lg_cmp_eq _ _).mp c56)
          exact rt_v hx hb hrt hlocks ((g, n)) (hz e56) (hP.sub [0, 1] rfl) (hK.sub [0] rfl) (hD.sub [0, 1] (by decide) rfl) hS d_Big_timesPlus_92
        · have e56 : cy ≠ 0 := fun z => c56 ((lg_cmp_eq _ _).mpr ((lN_ne0 (by omega)).mpr z))
          obtain ⟨hn96, hB2⟩ := hnz e56
          refine lv_aload_n hx hb d_Big_timesPlus_59 rfl (lv_at hl 0 rfl) ?_
          refine va_get (D := D) (ci := 0) (v := .int (nI n)) (C := R_Big) (T := F_Big) (N := 2) hx hb hts w_Big hown hK hP 0 rfl rfl 1 (by decide) (hts _ kF_Big_13) (fun _ h9 => h9) rfl d_Big_timesPlus_60 ?_
          refine lv_aload_n hx hb d_Big_timesPlus_63 rfl (lv_at hl 0 rfl) ?_
          refine va_get (D := D) (ci := 0) (v := .ref a) (C := R_Big) (T := F_Big) (N := 2) hx hb hts w_Big hown hK hP 0 rfl rfl 0 (by decide) (hts _ kF_Big_9) (fun _ h9 => h9) rfl d_Big_timesPlus_64 ?_
          refine va_alen hx hb hK hP 1 0 rfl rfl (v := 96) rfl d_Big_timesPlus_67 ?_
          refine lv_icmp_ge (tgt := 92) hx hb d_Big_timesPlus_68 (by decide) (fun c68 => ?_) (fun c68 => ?_)
          · exact absurd ((nI_leI (a := 96) (b := n) (by decide) (by omega)).mp c68) (by omega)
          · refine lv_aload_n hx hb d_Big_timesPlus_71 rfl (lv_at hl 0 rfl) ?_
            refine va_get (D := D) (ci := 0) (v := .ref a) (C := R_Big) (T := F_Big) (N := 2) hx hb hts w_Big hown hK hP 0 rfl rfl 0 (by decide) (hts _ kF_Big_9) (fun _ h9 => h9) rfl d_Big_timesPlus_72 ?_
            refine lv_aload_n hx hb d_Big_timesPlus_75 rfl (lv_at hl 0 rfl) ?_
            refine va_get (D := D) (ci := 0) (v := .int (nI n)) (C := R_Big) (T := F_Big) (N := 2) hx hb hts w_Big hown hK hP 0 rfl rfl 1 (by decide) (hts _ kF_Big_13) (fun _ h9 => h9) rfl d_Big_timesPlus_76 ?_
            refine lv_lload_n hx hb d_Big_timesPlus_79 rfl (lv_at hl 2 rfl) ?_
            refine lv_l2i (v := (lN cy).toInt32) hx hb d_Big_timesPlus_80 (rfl) ?_
            refine tv_i (nI cy) (lN_i _) ?_
            refine va_iast hx hb hK hP hD hS 1 0 rfl rfl (i := nI n) (vp_in_nI (show n < 96 by omega) (by decide)) d_Big_timesPlus_81 (fun H locs hP hD hS => ?_)
            have hP : va_P D vcl [(h, .inr (0, [.ref a, .int (nI n)])), (a, .inl (cA, 96, .inl (upd g (nI n).toNatClampNeg (nI cy))))] H := hP
            have hD : va_D A [(h, .inr (0, [.ref a, .int (nI n)])), (a, .inl (cA, 96, .inl (upd g (nI n).toNatClampNeg (nI cy))))] := hD
            rw [show upd g (nI n).toNatClampNeg (nI cy) = upd g n (nI cy) from by rw [nI_clamp (by omega)]] at hP hD
            refine lv_aload_n hx hb d_Big_timesPlus_82 rfl (lv_at hl 0 rfl) ?_
            refine lv_dup hx hb d_Big_timesPlus_83 rfl ?_
            refine va_get (D := D) (ci := 0) (v := .int (nI n)) (C := R_Big) (T := F_Big) (N := 2) hx hb hts w_Big hown hK hP 0 rfl rfl 1 (by decide) (hts _ kF_Big_13) (fun _ h9 => h9) rfl d_Big_timesPlus_84 ?_
            refine lv_iconst (v := 1) hx hb d_Big_timesPlus_87 (by decide) ?_
            refine lv_iadd hx hb d_Big_timesPlus_88 ?_
            refine tv_i (nI (n + 1)) (nI_1 n) ?_
            refine va_put (D := D) (ci := 0) (v := .int (nI (n + 1))) (ty := .int) (C := R_Big) (T := F_Big) (N := 2) hx hb hts w_Big t_Big tk_Big n_Big hown hK hP hD hS 0 rfl rfl 1 (by decide) (hts _ kF_Big_13) (fun _ h9 => h9) rfl (by decide +kernel) (rfl) (rfl) (Nat.le_of_ble_eq_true rfl) d_Big_timesPlus_89 (fun H locs hP hD hS => ?_)
            have hP : va_P D vcl [(h, .inr (0, [.ref a, .int (nI (n + 1))])), (a, .inl (cA, 96, .inl (upd g n (nI cy))))] H := hP
            have hD : va_D A [(h, .inr (0, [.ref a, .int (nI (n + 1))])), (a, .inl (cA, 96, .inl (upd g n (nI cy))))] := hD
            exact rt_v hx hb hrt hlocks ((upd g n (nI cy), n + 1)) (hB2) (hP.sub [0, 1] rfl) (hK.sub [0] rfl) (hD.sub [0, 1] (by decide) rfl) hS d_Big_timesPlus_92
      · have e12 : i < n := Nat.lt_of_not_le (fun z => c12 ((nI_leI (by omega) (by omega)).mpr z))
        have hcy := tp_cy (w32_lt (g i)) hk1 hc
        refine lv_lload_n hx hb d_Big_timesPlus_15 rfl (lv_at hl 2 rfl) ?_
        refine lv_aload_n hx hb d_Big_timesPlus_16 rfl (lv_at hl 0 rfl) ?_
        refine va_get (D := D) (ci := 0) (v := .ref a) (C := R_Big) (T := F_Big) (N := 2) hx hb hts w_Big hown hK hP 0 rfl rfl 0 (by decide) (hts _ kF_Big_9) (fun _ h9 => h9) rfl d_Big_timesPlus_17 ?_
        refine lv_iload hx hb d_Big_timesPlus_20 (lv_at hl 3 rfl) ?_
        refine va_iald hx hb hK hP 1 0 rfl rfl (i := nI i) (vp_in_nI (show i < 96 by omega) (by decide)) d_Big_timesPlus_22 ?_
        refine tv_i (g i) (by rw [nI_clamp (by omega)]) ?_
        refine lv_i2l (v := (g i).toInt64) hx hb d_Big_timesPlus_23 (rfl) ?_
        refine lv_ldc2 hx hb hown (hts _ kK_Big_20) d_Big_timesPlus_24 ?_
        refine lv_land hx hb d_Big_timesPlus_27 ?_
        refine tv_l (lN (w32 (g i))) (lim _) ?_
        refine lv_iload_n hx hb d_Big_timesPlus_28 rfl (lv_at hl 1 rfl) ?_
        refine lv_i2l (v := (nI k).toInt64) hx hb d_Big_timesPlus_29 (rfl) ?_
        refine tv_l (lN k) (nI_l hk1) ?_
        refine lv_lmul hx hb d_Big_timesPlus_30 ?_
        refine lv_ladd hx hb d_Big_timesPlus_31 ?_
        refine tv_l (lN (w32 (g i) * k + cy)) (by rw [lN_mul, lN_add, Nat.add_comm]) ?_
        refine lv_lstore_n (lv' := [(3, .long (lN (w32 (g i) * k + cy))), (0, .ref h), (1, .int (nI k)), (5, .int (nI i))]) hx hb d_Big_timesPlus_32 rfl hl (by decide) rfl (fun ls hl => ?_)
        refine lv_aload_n hx hb d_Big_timesPlus_33 rfl (lv_at hl 1 rfl) ?_
        refine va_get (D := D) (ci := 0) (v := .ref a) (C := R_Big) (T := F_Big) (N := 2) hx hb hts w_Big hown hK hP 0 rfl rfl 0 (by decide) (hts _ kF_Big_9) (fun _ h9 => h9) rfl d_Big_timesPlus_34 ?_
        refine lv_iload hx hb d_Big_timesPlus_37 (lv_at hl 3 rfl) ?_
        refine lv_lload_n hx hb d_Big_timesPlus_39 rfl (lv_at hl 0 rfl) ?_
        refine lv_l2i (v := (lN (w32 (g i) * k + cy)).toInt32) hx hb d_Big_timesPlus_40 (rfl) ?_
        refine tv_i (nI (w32 (g i) * k + cy)) (lN_i _) ?_
        refine va_iast hx hb hK hP hD hS 1 0 rfl rfl (i := nI i) (vp_in_nI (show i < 96 by omega) (by decide)) d_Big_timesPlus_41 (fun H locs hP hD hS => ?_)
        have hP : va_P D vcl [(h, .inr (0, [.ref a, .int (nI n)])), (a, .inl (cA, 96, .inl (upd g (nI i).toNatClampNeg (nI (w32 (g i) * k + cy)))))] H := hP
        have hD : va_D A [(h, .inr (0, [.ref a, .int (nI n)])), (a, .inl (cA, 96, .inl (upd g (nI i).toNatClampNeg (nI (w32 (g i) * k + cy)))))] := hD
        rw [show upd g (nI i).toNatClampNeg (nI (w32 (g i) * k + cy)) = upd g i (nI ((w32 (g i) * k + cy) % 4294967296)) from by rw [nI_clamp (by omega), nI_mod]] at hP hD
        refine lv_lload_n hx hb d_Big_timesPlus_42 rfl (lv_at hl 0 rfl) ?_
        refine lv_bipush (v := 32) hx hb d_Big_timesPlus_43 (by decide) ?_
        refine lv_lushr (v := lN ((w32 (g i) * k + cy) / 4294967296)) hx hb d_Big_timesPlus_45 (wb_shr (k := 32) (by omega) (by decide)) ?_
        refine lv_lstore_n (lv' := [(3, .long (lN ((w32 (g i) * k + cy) / 4294967296))), (0, .ref h), (1, .int (nI k)), (5, .int (nI i))]) hx hb d_Big_timesPlus_46 rfl hl (by decide) rfl (fun ls hl => ?_)
        refine lv_iinc (v := nI (i + 1)) (lv' := [(5, .int (nI (i + 1))), (3, .long (lN ((w32 (g i) * k + cy) / 4294967296))), (0, .ref h), (1, .int (nI k))]) hx hb d_Big_timesPlus_47 hl (k := 3) rfl (nI_1 i) (by decide) rfl (fun ls hl => ?_)
        refine lv_goto (tgt := 6) hx hb d_Big_timesPlus_50 (by decide) ?_
        exact ih (i + 1) ((w32 (g i) * k + cy) / 4294967296) (upd g i (nI ((w32 (g i) * k + cy) % 4294967296))) (by omega) (by omega) (hcy.1) (fun j hj => by rw [pk_un (by omega)]; exact hg j (by omega)) (tp_step hg hv) _ _ _ (hP.sub [0, 1] rfl) (hD.sub [0, 1] (by decide) rfl) hS (lv_sub hl [2, 3, 1, 0] rfl)
  exact L6 (n + 1) 0 mo f (by omega) (Nat.zero_le n) (hm) (fun _ _ => rfl) (by show 0 + mo * 1 = 0 * k + mo; omega) _ _ _ (hP.sub [0, 1] rfl) (hD.sub [0, 1] (by decide) rfl) hS (lv_sub hl [2, 3, 1, 0] rfl)

set_option maxHeartbeats 4000000 in
set_option maxRecDepth 100000 in
theorem c_Big_subtract (l : Launch) (D : va_G) (E : evD) (h a h2 a2 : Nat) (cA cB : ClassId) (f o : Nat → Int32) (n n2 V U : Nat) (hB : isB f n V) (hO : isB o n2 U) (hUV : U ≤ V) : Cv (S := (Nat → Int32) × Nat) l y_Big_subtract (wz y_Big_subtract b_Big_subtract 9 none) ({ frames := 1, cells := 0, slots := 0, locals := 20 }) D vcl (ev1 E) [.ref h, .ref h2] [(cA, .int), (cB, .int)] [(h, .inr (0, [.ref a, .int (nI n)])), (a, .inl (cA, 96, .inl f)), (h2, .inr (0, [.ref a2, .int (nI n2)])), (a2, .inl (cB, 96, .inl o))] 0 0 (fun u : (Nat → Int32) × Nat => isB u.1 u.2 (V - U)) (fun _ => [(cA, .int), (cB, .int)]) (fun u : (Nat → Int32) × Nat => [(h, .inr (0, [.ref a, .int (nI u.2)])), (a, .inl (cA, 96, .inl u.1)), (h2, .inr (0, [.ref a2, .int (nI n2)])), (a2, .inl (cB, 96, .inl o))]) := by
  have hev := ev1_ok E
  unfold Cv
  refine ct_of (y := y_Big_subtract) (av := [.ref h, .ref h2]) (cc := b_Big_subtract) (maxL := 9) (ret := none) (Qc := fun A => va_Qv (S := (Nat → Int32) × Nat) (fun u : (Nat → Int32) × Nat => isB u.1 u.2 (V - U)) (fun u tS => ctB D vcl ((fun _ => [(cA, .int), (cB, .int)]) u) ((fun u : (Nat → Int32) × Nat => [(h, .inr (0, [.ref a, .int (nI u.2)])), (a, .inl (cA, 96, .inl u.1)), (h2, .inr (0, [.ref a2, .int (nI n2)])), (a2, .inl (cB, 96, .inl o))]) u) A tS) A) (by decide) rfl (Nat.le_of_ble_eq_true rfl) ?_
  intro p ee s m below meth cde ls A H locs hx hb hml hrt hlocks hown hin hts hA hP hK hD hS hE hl
  have hown : s.vm.findClass R_Big = some m.cls := hown
  have hts := wz_g hts
  have hl : lv_has ls 9 [(0, .ref h), (1, .ref h2)] := hl
  have hn96 := hB.2.1
  have hn96b := hO.2.1
  refine lv_lconst (v := 0) hx hb d_Big_subtract_0 (by decide) ?_
  refine tv_l (lN 0) (rfl) ?_
  refine lv_lstore_n (lv' := [(2, .long (lN 0)), (0, .ref h), (1, .ref h2)]) hx hb d_Big_subtract_1 rfl hl (by decide) rfl (fun ls hl => ?_)
  refine lv_iconst (v := 0) hx hb d_Big_subtract_2 (by decide) ?_
  refine lv_istore (lv' := [(4, .int 0), (2, .long (lN 0)), (0, .ref h), (1, .ref h2)]) hx hb d_Big_subtract_3 hl (by decide) rfl (fun ls hl => ?_)
  have L5 : ∀ (kk : Nat) (i : Nat) (b : Nat) (g : Nat → Int32), n - i < kk → (i ≤ n) → (b ≤ 1) → (∀ j, i ≤ j → g j = f j) → (bv g i + bv (ext0 o n2) i = bv f i + b * pw i) → ∀ (H : Heap) (locs : List Loc) (ls : Array Slot), va_P D vcl [(h, .inr (0, [.ref a, .int (nI n)])), (a, .inl (cA, 96, .inl g)), (h2, .inr (0, [.ref a2, .int (nI n2)])), (a2, .inl (cB, 96, .inl o))] H → va_D A [(h, .inr (0, [.ref a, .int (nI n)])), (a, .inl (cA, 96, .inl g)), (h2, .inr (0, [.ref a2, .int (nI n2)])), (a2, .inl (cB, 96, .inl o))] → va_S A s.heap H locs → lv_has ls 9 [(0, .ref h), (1, .ref h2), (2, .long (lN b)), (4, .int (nI i))] → W p l ee ({ frames := 1, cells := 0, slots := 0, locals := 20 }) s m ([.ref h, .ref h2] : List Value).toArray below meth cde H locs 0 0 (MQ below (va_Qv (S := (Nat → Int32) × Nat) (fun u : (Nat → Int32) × Nat => isB u.1 u.2 (V - U)) (fun u tS => ctB D vcl ((fun _ => [(cA, .int), (cB, .int)]) u) ((fun u : (Nat → Int32) × Nat => [(h, .inr (0, [.ref a, .int (nI u.2)])), (a, .inl (cA, 96, .inl u.1)), (h2, .inr (0, [.ref a2, .int (nI n2)])), (a2, .inl (cB, 96, .inl o))]) u) A tS) A) ([.ref h, .ref h2] : List Value).toArray s 0 0 A) (F0 m 5 ls []) := by
    intro kk
    induction kk with
    | zero => intro i b g hmz; exact absurd hmz (Nat.not_lt_zero _)
    | succ kk ih =>
      intro i b g hmz hi hc hg hv H locs ls hP hD hS hl
      refine lv_iload hx hb d_Big_subtract_5 (lv_at hl 3 rfl) ?_
      refine lv_aload_n hx hb d_Big_subtract_7 rfl (lv_at hl 0 rfl) ?_
      refine va_get (D := D) (ci := 0) (v := .int (nI n)) (C := R_Big) (T := F_Big) (N := 2) hx hb hts w_Big hown hK hP 0 rfl rfl 1 (by decide) (hts _ kF_Big_13) (fun _ h9 => h9) rfl d_Big_subtract_8 ?_
      refine lv_icmp_ge (tgt := 82) hx hb d_Big_subtract_11 (by decide) (fun c11 => ?_) (fun c11 => ?_)
      · have e11 : i = n := by have := (nI_leI (by omega) (by omega)).mp c11; omega
        rw [e11] at hv hg
        refine lv_aload_n hx hb d_Big_subtract_82 rfl (lv_at hl 0 rfl) ?_
        refine ca_v [(h2, .inr (0, [.ref a2, .int (nI n2)])), (a2, .inl (cB, 96, .inl o))] (va_runV (As := []) (rest := []) ⟨hx, hb, hml, hown, hts⟩ (c_Big_dropZeros l D E h a cA g n (by omega) H.size) (xV 0 hts kC_Big_dropZeros kM_Big_17 kI_Big_dropZeros kS_Big_dropZeros kN_Big rfl rfl (by decide +kernel) ⟨Nat.le_of_ble_eq_true rfl, Nat.le_of_ble_eq_true rfl⟩) ⟨ct_blind hev, va_recv hK hP (ci := 0) (q0 := 0) rfl rfl, ct_pre hev hP hK hD hS hA hE [0, 1] rfl (by decide) [0] rfl⟩ rfl rfl hl.1 rfl (lv_room (Nat.le_of_ble_eq_true rfl)) d_Big_subtract_83 ⟨Nat.le_of_ble_eq_true rfl, Nat.le_of_ble_eq_true rfl⟩) hP hD hS hA [0, 1] [2, 3] rfl rfl (by decide) (by decide) (fun u H locs hw hP hD hS hK1 => ?_)
        obtain ⟨k1, rfl⟩ : ∃ z, z = u := ⟨_, rfl⟩
        have hP : va_P D vcl [(h2, .inr (0, [.ref a2, .int (nI n2)])), (a2, .inl (cB, 96, .inl o)), (h, .inr (0, [.ref a, .int (nI k1)])), (a, .inl (cA, 96, .inl g))] H := hP
        have hD : va_D A [(h2, .inr (0, [.ref a2, .int (nI n2)])), (a2, .inl (cB, 96, .inl o)), (h, .inr (0, [.ref a, .int (nI k1)])), (a, .inl (cA, 96, .inl g))] := hD
        exact rt_v hx hb hrt hlocks ((g, k1)) (by
          obtain ⟨w1, w2, w3⟩ := hw
          have hle := isB_le hO hB hUV
          have he := bv_ext0 (o := o) n hle
          rw [he] at hv
          have hlt := bv_lt g n
          have := hO.1
          have := hB.1
          refine ⟨?_, by omega, w3⟩
          rw [w1]
          rcases (show b = 0 ∨ b = 1 by omega) with z | z <;> rw [z] at hv <;> omega) (hP.sub [2, 3, 0, 1] rfl) (hK.sub [0, 1] rfl) (hD.sub [2, 3, 0, 1] (by decide) rfl) hS d_Big_subtract_86
      · have e11 : i < n := Nat.lt_of_not_le (fun z => c11 ((nI_leI (by omega) (by omega)).mpr z))
        obtain ⟨x, bb, hx32, hbb, hsum, hl2, hs63⟩ := sub_bits (w32_lt (g i)) (w32_lt (ext0 o n2 i)) hc
        refine lv_iload hx hb d_Big_subtract_14 (lv_at hl 3 rfl) ?_
        refine lv_aload_n hx hb d_Big_subtract_16 rfl (lv_at hl 1 rfl) ?_
        refine va_get (D := D) (ci := 0) (v := .int (nI n2)) (C := R_Big) (T := F_Big) (N := 2) hx hb hts w_Big hown hK hP 2 rfl rfl 1 (by decide) (hts _ kF_Big_13) (fun _ h9 => h9) rfl d_Big_subtract_17 ?_
        refine lv_icmp_ge (tgt := 38) hx hb d_Big_subtract_20 (by decide) (fun c20 => ?_) (fun c20 => ?_)
        · have e20 : n2 ≤ i := (nI_leI (by omega) (by omega)).mp c20
          refine lv_lconst (v := 0) hx hb d_Big_subtract_38 (by decide) ?_
          refine tv_l (lN (w32 (ext0 o n2 i))) (by rw [ext0_out e20]; rfl) ?_
          refine lv_lstore (lv' := [(5, .long (lN (w32 (ext0 o n2 i)))), (0, .ref h), (1, .ref h2), (2, .long (lN b)), (4, .int (nI i))]) hx hb d_Big_subtract_39 hl (by decide) rfl (fun ls hl => ?_)
          refine lv_aload_n hx hb d_Big_subtract_41 rfl (lv_at hl 1 rfl) ?_
          refine va_get (D := D) (ci := 0) (v := .ref a) (C := R_Big) (T := F_Big) (N := 2) hx hb hts w_Big hown hK hP 0 rfl rfl 0 (by decide) (hts _ kF_Big_9) (fun _ h9 => h9) rfl d_Big_subtract_42 ?_
          refine lv_iload hx hb d_Big_subtract_45 (lv_at hl 4 rfl) ?_
          refine va_iald hx hb hK hP 1 0 rfl rfl (i := nI i) (vp_in_nI (show i < 96 by omega) (by decide)) d_Big_subtract_47 ?_
          refine tv_i (g i) (by rw [nI_clamp (by omega)]) ?_
          refine lv_i2l (v := (g i).toInt64) hx hb d_Big_subtract_48 (rfl) ?_
          refine lv_ldc2 hx hb hown (hts _ kK_Big_20) d_Big_subtract_49 ?_
          refine lv_land hx hb d_Big_subtract_52 ?_
          refine tv_l (lN (w32 (g i))) (lim _) ?_
          refine lv_lload hx hb d_Big_subtract_53 (lv_at hl 0 rfl) ?_
          refine lv_lsub hx hb d_Big_subtract_55 ?_
          refine lv_lload_n hx hb d_Big_subtract_56 rfl (lv_at hl 3 rfl) ?_
          refine lv_lsub hx hb d_Big_subtract_57 ?_
          refine lv_lstore (lv' := [(7, .long (((lN (w32 (g i))) - (lN (w32 (ext0 o n2 i)))) - (lN b))), (5, .long (lN (w32 (ext0 o n2 i)))), (0, .ref h), (1, .ref h2), (2, .long (lN b)), (4, .int (nI i))]) hx hb d_Big_subtract_58 hl (by decide) rfl (fun ls hl => ?_)
          refine lv_aload_n hx hb d_Big_subtract_60 rfl (lv_at hl 2 rfl) ?_
          refine va_get (D := D) (ci := 0) (v := .ref a) (C := R_Big) (T := F_Big) (N := 2) hx hb hts w_Big hown hK hP 0 rfl rfl 0 (by decide) (hts _ kF_Big_9) (fun _ h9 => h9) rfl d_Big_subtract_61 ?_
          refine lv_iload hx hb d_Big_subtract_64 (lv_at hl 5 rfl) ?_
          refine lv_lload hx hb d_Big_subtract_66 (lv_at hl 0 rfl) ?_
          refine lv_l2i (v := (((lN (w32 (g i))) - (lN (w32 (ext0 o n2 i)))) - (lN b)).toInt32) hx hb d_Big_subtract_68 (rfl) ?_
          refine tv_i (nI x) (hl2) ?_
          refine va_iast hx hb hK hP hD hS 1 0 rfl rfl (i := nI i) (vp_in_nI (show i < 96 by omega) (by decide)) d_Big_subtract_69 (fun H locs hP hD hS => ?_)
          have hP : va_P D vcl [(h, .inr (0, [.ref a, .int (nI n)])), (a, .inl (cA, 96, .inl (upd g (nI i).toNatClampNeg (nI x)))), (h2, .inr (0, [.ref a2, .int (nI n2)])), (a2, .inl (cB, 96, .inl o))] H := hP
          have hD : va_D A [(h, .inr (0, [.ref a, .int (nI n)])), (a, .inl (cA, 96, .inl (upd g (nI i).toNatClampNeg (nI x)))), (h2, .inr (0, [.ref a2, .int (nI n2)])), (a2, .inl (cB, 96, .inl o))] := hD
          rw [show upd g (nI i).toNatClampNeg (nI x) = upd g i (nI x) from by rw [nI_clamp (by omega)]] at hP hD
          refine lv_lload hx hb d_Big_subtract_70 (lv_at hl 0 rfl) ?_
          refine lv_bipush (v := 63) hx hb d_Big_subtract_72 (by decide) ?_
          refine lv_lushr (v := lN bb) hx hb d_Big_subtract_74 (hs63) ?_
          refine lv_lstore_n (lv' := [(2, .long (lN bb)), (7, .long (((lN (w32 (g i))) - (lN (w32 (ext0 o n2 i)))) - (lN b))), (5, .long (lN (w32 (ext0 o n2 i)))), (0, .ref h), (1, .ref h2), (4, .int (nI i))]) hx hb d_Big_subtract_75 rfl hl (by decide) rfl (fun ls hl => ?_)
          refine lv_iinc (v := nI (i + 1)) (lv' := [(4, .int (nI (i + 1))), (2, .long (lN bb)), (7, .long (((lN (w32 (g i))) - (lN (w32 (ext0 o n2 i)))) - (lN b))), (5, .long (lN (w32 (ext0 o n2 i)))), (0, .ref h), (1, .ref h2)]) hx hb d_Big_subtract_76 hl (k := 5) rfl (nI_1 i) (by decide) rfl (fun ls hl => ?_)
          refine lv_goto (tgt := 5) hx hb d_Big_subtract_79 (by decide) ?_
          exact ih (i + 1) bb (upd g i (nI x)) (by omega) (by omega) (hbb) (fun j hj => by rw [pk_un (by omega)]; exact hg j (by omega)) (sb_step (w32 (ext0 o n2 i)) hg hx32 hv rfl hsum) _ _ _ (hP.sub [0, 1, 2, 3] rfl) (hD.sub [0, 1, 2, 3] (by decide) rfl) hS (lv_sub hl [4, 5, 1, 0] rfl)
        · have e20 : i < n2 := Nat.lt_of_not_le (fun z => c20 ((nI_leI (by omega) (by omega)).mpr z))
          refine lv_aload_n hx hb d_Big_subtract_23 rfl (lv_at hl 1 rfl) ?_
          refine va_get (D := D) (ci := 0) (v := .ref a2) (C := R_Big) (T := F_Big) (N := 2) hx hb hts w_Big hown hK hP 2 rfl rfl 0 (by decide) (hts _ kF_Big_9) (fun _ h9 => h9) rfl d_Big_subtract_24 ?_
          refine lv_iload hx hb d_Big_subtract_27 (lv_at hl 3 rfl) ?_
          refine va_iald hx hb hK hP 3 1 rfl rfl (i := nI i) (vp_in_nI (show i < 96 by omega) (by decide)) d_Big_subtract_29 ?_
          refine tv_i (o i) (by rw [nI_clamp (by omega)]) ?_
          refine lv_i2l (v := (o i).toInt64) hx hb d_Big_subtract_30 (rfl) ?_
          refine lv_ldc2 hx hb hown (hts _ kK_Big_20) d_Big_subtract_31 ?_
          refine lv_land hx hb d_Big_subtract_34 ?_
          refine tv_l (lN (w32 (ext0 o n2 i))) (by rw [ext0_in e20]; exact lim _) ?_
          refine lv_goto (tgt := 39) hx hb d_Big_subtract_35 (by decide) ?_
          refine lv_lstore (lv' := [(5, .long (lN (w32 (ext0 o n2 i)))), (0, .ref h), (1, .ref h2), (2, .long (lN b)), (4, .int (nI i))]) hx hb d_Big_subtract_39 hl (by decide) rfl (fun ls hl => ?_)
          refine lv_aload_n hx hb d_Big_subtract_41 rfl (lv_at hl 1 rfl) ?_
          refine va_get (D := D) (ci := 0) (v := .ref a) (C := R_Big) (T := F_Big) (N := 2) hx hb hts w_Big hown hK hP 0 rfl rfl 0 (by decide) (hts _ kF_Big_9) (fun _ h9 => h9) rfl d_Big_subtract_42 ?_
          refine lv_iload hx hb d_Big_subtract_45 (lv_at hl 4 rfl) ?_
          refine va_iald hx hb hK hP 1 0 rfl rfl (i := nI i) (vp_in_nI (show i < 96 by omega) (by decide)) d_Big_subtract_47 ?_
          refine tv_i (g i) (by rw [nI_clamp (by omega)]) ?_
          refine lv_i2l (v := (g i).toInt64) hx hb d_Big_subtract_48 (rfl) ?_
          refine lv_ldc2 hx hb hown (hts _ kK_Big_20) d_Big_subtract_49 ?_
          refine lv_land hx hb d_Big_subtract_52 ?_
          refine tv_l (lN (w32 (g i))) (lim _) ?_
          refine lv_lload hx hb d_Big_subtract_53 (lv_at hl 0 rfl) ?_
          refine lv_lsub hx hb d_Big_subtract_55 ?_
          refine lv_lload_n hx hb d_Big_subtract_56 rfl (lv_at hl 3 rfl) ?_
          refine lv_lsub hx hb d_Big_subtract_57 ?_
          refine lv_lstore (lv' := [(7, .long (((lN (w32 (g i))) - (lN (w32 (ext0 o n2 i)))) - (lN b))), (5, .long (lN (w32 (ext0 o n2 i)))), (0, .ref h), (1, .ref h2), (2, .long (lN b)), (4, .int (nI i))]) hx hb d_Big_subtract_58 hl (by decide) rfl (fun ls hl => ?_)
          refine lv_aload_n hx hb d_Big_subtract_60 rfl (lv_at hl 2 rfl) ?_
          refine va_get (D := D) (ci := 0) (v := .ref a) (C := R_Big) (T := F_Big) (N := 2) hx hb hts w_Big hown hK hP 0 rfl rfl 0 (by decide) (hts _ kF_Big_9) (fun _ h9 => h9) rfl d_Big_subtract_61 ?_
          refine lv_iload hx hb d_Big_subtract_64 (lv_at hl 5 rfl) ?_
          refine lv_lload hx hb d_Big_subtract_66 (lv_at hl 0 rfl) ?_
          refine lv_l2i (v := (((lN (w32 (g i))) - (lN (w32 (ext0 o n2 i)))) - (lN b)).toInt32) hx hb d_Big_subtract_68 (rfl) ?_
          refine tv_i (nI x) (hl2) ?_
          refine va_iast hx hb hK hP hD hS 1 0 rfl rfl (i := nI i) (vp_in_nI (show i < 96 by omega) (by decide)) d_Big_subtract_69 (fun H locs hP hD hS => ?_)
          have hP : va_P D vcl [(h, .inr (0, [.ref a, .int (nI n)])), (a, .inl (cA, 96, .inl (upd g (nI i).toNatClampNeg (nI x)))), (h2, .inr (0, [.ref a2, .int (nI n2)])), (a2, .inl (cB, 96, .inl o))] H := hP
          have hD : va_D A [(h, .inr (0, [.ref a, .int (nI n)])), (a, .inl (cA, 96, .inl (upd g (nI i).toNatClampNeg (nI x)))), (h2, .inr (0, [.ref a2, .int (nI n2)])), (a2, .inl (cB, 96, .inl o))] := hD
          rw [show upd g (nI i).toNatClampNeg (nI x) = upd g i (nI x) from by rw [nI_clamp (by omega)]] at hP hD
          refine lv_lload hx hb d_Big_subtract_70 (lv_at hl 0 rfl) ?_
          refine lv_bipush (v := 63) hx hb d_Big_subtract_72 (by decide) ?_
          refine lv_lushr (v := lN bb) hx hb d_Big_subtract_74 (hs63) ?_
          refine lv_lstore_n (lv' := [(2, .long (lN bb)), (7, .long (((lN (w32 (g i))) - (lN (w32 (ext0 o n2 i)))) - (lN b))), (5, .long (lN (w32 (ext0 o n2 i)))), (0, .ref h), (1, .ref h2), (4, .int (nI i))]) hx hb d_Big_subtract_75 rfl hl (by decide) rfl (fun ls hl => ?_)
          refine lv_iinc (v := nI (i + 1)) (lv' := [(4, .int (nI (i + 1))), (2, .long (lN bb)), (7, .long (((lN (w32 (g i))) - (lN (w32 (ext0 o n2 i)))) - (lN b))), (5, .long (lN (w32 (ext0 o n2 i)))), (0, .ref h), (1, .ref h2)]) hx hb d_Big_subtract_76 hl (k := 5) rfl (nI_1 i) (by decide) rfl (fun ls hl => ?_)
          refine lv_goto (tgt := 5) hx hb d_Big_subtract_79 (by decide) ?_
          exact ih (i + 1) bb (upd g i (nI x)) (by omega) (by omega) (hbb) (fun j hj => by rw [pk_un (by omega)]; exact hg j (by omega)) (sb_step (w32 (ext0 o n2 i)) hg hx32 hv rfl hsum) _ _ _ (hP.sub [0, 1, 2, 3] rfl) (hD.sub [0, 1, 2, 3] (by decide) rfl) hS (lv_sub hl [4, 5, 1, 0] rfl)
  exact L5 (n + 1) 0 0 f (by omega) (Nat.zero_le n) (Nat.zero_le 1) (fun _ _ => rfl) (by rw [bv_0, bv_0]; omega) _ _ _ (hP.sub [0, 1, 2, 3] rfl) (hD.sub [0, 1, 2, 3] (by decide) rfl) hS (lv_sub hl [2, 3, 1, 0] rfl)

set_option maxHeartbeats 4000000 in
set_option maxRecDepth 100000 in
theorem c_Big_isAtLeast (l : Launch) (D : va_G) (E : evD) (h a h2 a2 : Nat) (cA cB : ClassId) (f o : Nat → Int32) (n n2 V U : Nat) (hB : isB f n V) (hO : isB o n2 U) : Ci (S := Unit) l y_Big_isAtLeast (wz y_Big_isAtLeast b_Big_isAtLeast 3 (some .boolean)) ({ frames := 0, cells := 0, slots := 0, locals := 0 }) D vcl (ev1 E) [.ref h, .ref h2] [(cA, .int), (cB, .int)] [(h, .inr (0, [.ref a, .int (nI n)])), (a, .inl (cA, 96, .inl f)), (h2, .inr (0, [.ref a2, .int (nI n2)])), (a2, .inl (cB, 96, .inl o))] 0 0 (fun (r : Int32) (_ : Unit) => (r = 1 ∨ r = 0) ∧ (r = 1 ↔ U ≤ V)) (fun _ => [(cA, .int), (cB, .int)]) (fun _ : Unit => [(h, .inr (0, [.ref a, .int (nI n)])), (a, .inl (cA, 96, .inl f)), (h2, .inr (0, [.ref a2, .int (nI n2)])), (a2, .inl (cB, 96, .inl o))]) := by
  have hev := ev1_ok E
  unfold Ci
  refine ct_of (y := y_Big_isAtLeast) (av := [.ref h, .ref h2]) (cc := b_Big_isAtLeast) (maxL := 3) (ret := (some .boolean)) (Qc := fun A => va_Qi (S := Unit) (fun (r : Int32) (_ : Unit) => (r = 1 ∨ r = 0) ∧ (r = 1 ↔ U ≤ V)) (fun u tS => ctB D vcl ((fun _ => [(cA, .int), (cB, .int)]) u) ((fun _ : Unit => [(h, .inr (0, [.ref a, .int (nI n)])), (a, .inl (cA, 96, .inl f)), (h2, .inr (0, [.ref a2, .int (nI n2)])), (a2, .inl (cB, 96, .inl o))]) u) A tS) A) (by decide) rfl (Nat.le_of_ble_eq_true rfl) ?_
  intro p ee s m below meth cde ls A H locs hx hb hml hrt hlocks hown hin hts hA hP hK hD hS hE hl
  have hown : s.vm.findClass R_Big = some m.cls := hown
  have hts := wz_g hts
  have hl : lv_has ls 3 [(0, .ref h), (1, .ref h2)] := hl
  have hn96 := hB.2.1
  have hn96b := hO.2.1
  refine lv_aload_n hx hb d_Big_isAtLeast_0 rfl (lv_at hl 0 rfl) ?_
  refine va_get (D := D) (ci := 0) (v := .int (nI n)) (C := R_Big) (T := F_Big) (N := 2) hx hb hts w_Big hown hK hP 0 rfl rfl 1 (by decide) (hts _ kF_Big_13) (fun _ h9 => h9) rfl d_Big_isAtLeast_1 ?_
  refine lv_aload_n hx hb d_Big_isAtLeast_4 rfl (lv_at hl 1 rfl) ?_
  refine va_get (D := D) (ci := 0) (v := .int (nI n2)) (C := R_Big) (T := F_Big) (N := 2) hx hb hts w_Big hown hK hP 2 rfl rfl 1 (by decide) (hts _ kF_Big_13) (fun _ h9 => h9) rfl d_Big_isAtLeast_5 ?_
  refine lv_icmp_eq (tgt := 28) hx hb d_Big_isAtLeast_8 (by decide) (fun c8 => ?_) (fun c8 => ?_)
  · have e8 : n = n2 := (nI_eq (by omega) (by omega)).mp c8
    refine lv_aload_n hx hb d_Big_isAtLeast_28 rfl (lv_at hl 0 rfl) ?_
    refine va_get (D := D) (ci := 0) (v := .int (nI n)) (C := R_Big) (T := F_Big) (N := 2) hx hb hts w_Big hown hK hP 0 rfl rfl 1 (by decide) (hts _ kF_Big_13) (fun _ h9 => h9) rfl d_Big_isAtLeast_29 ?_
    refine lv_iconst (v := 1) hx hb d_Big_isAtLeast_32 (by decide) ?_
    refine lv_isub hx hb d_Big_isAtLeast_33 ?_
    refine lv_istore_n (lv' := [(2, .int ((nI n) - 1)), (0, .ref h), (1, .ref h2)]) hx hb d_Big_isAtLeast_34 rfl hl (by decide) rfl (fun ls hl => ?_)
    have L35 : ∀ (kk : Nat) (k : Nat), k < kk → (k ≤ n) → (∀ j, k ≤ j → j < n → f j = o j) → ∀ (H : Heap) (locs : List Loc) (ls : Array Slot), va_P D vcl [(h, .inr (0, [.ref a, .int (nI n)])), (a, .inl (cA, 96, .inl f)), (h2, .inr (0, [.ref a2, .int (nI n2)])), (a2, .inl (cB, 96, .inl o))] H → va_D A [(h, .inr (0, [.ref a, .int (nI n)])), (a, .inl (cA, 96, .inl f)), (h2, .inr (0, [.ref a2, .int (nI n2)])), (a2, .inl (cB, 96, .inl o))] → va_S A s.heap H locs → lv_has ls 3 [(0, .ref h), (1, .ref h2), (2, .int (nI k - 1))] → W p l ee ({ frames := 0, cells := 0, slots := 0, locals := 0 }) s m ([.ref h, .ref h2] : List Value).toArray below meth cde H locs 0 0 (MQ below (va_Qi (S := Unit) (fun (r : Int32) (_ : Unit) => (r = 1 ∨ r = 0) ∧ (r = 1 ↔ U ≤ V)) (fun u tS => ctB D vcl ((fun _ => [(cA, .int), (cB, .int)]) u) ((fun _ : Unit => [(h, .inr (0, [.ref a, .int (nI n)])), (a, .inl (cA, 96, .inl f)), (h2, .inr (0, [.ref a2, .int (nI n2)])), (a2, .inl (cB, 96, .inl o))]) u) A tS) A) ([.ref h, .ref h2] : List Value).toArray s 0 0 A) (F0 m 35 ls []) := by
      intro kk
      induction kk with
      | zero => intro k hmz; exact absurd hmz (Nat.not_lt_zero _)
      | succ kk ih =>
        intro k hmz hk he H locs ls hP hD hS hl
        refine lv_iload_n hx hb d_Big_isAtLeast_35 rfl (lv_at hl 2 rfl) ?_
        refine lv_if_lt (tgt := 92) hx hb d_Big_isAtLeast_36 (by decide) (fun c36 => ?_) (fun c36 => ?_)
        · have e36 : k = 0 := (nI_m1lt (by omega)).mp c36
          refine lv_iconst (v := 1) hx hb d_Big_isAtLeast_92 (by decide) ?_
          exact rt_i hx hb hrt hlocks (rfl) (()) (⟨Or.inl rfl, iff_of_true rfl (by have h9 := bv_congr (f := f) (g := o) (n := n) (fun j hj => he j (by omega) hj); have := hB.1; have h8 := hO.1; rw [← e8] at h8; omega)⟩) (hP.sub [0, 1, 2, 3] rfl) (hK.sub [0, 1] rfl) (hD.sub [0, 1, 2, 3] (by decide) rfl) hS d_Big_isAtLeast_93
        · have e36 : 0 < k := Nat.pos_of_ne_zero (fun z => c36 ((nI_m1lt (by omega)).mpr z))
          refine lv_aload_n hx hb d_Big_isAtLeast_39 rfl (lv_at hl 0 rfl) ?_
          refine va_get (D := D) (ci := 0) (v := .ref a) (C := R_Big) (T := F_Big) (N := 2) hx hb hts w_Big hown hK hP 0 rfl rfl 0 (by decide) (hts _ kF_Big_9) (fun _ h9 => h9) rfl d_Big_isAtLeast_40 ?_
          refine lv_iload_n hx hb d_Big_isAtLeast_43 rfl (lv_at hl 2 rfl) ?_
          refine tv_i (nI (k - 1)) (nI_dec e36) ?_
          refine va_iald hx hb hK hP 1 0 rfl rfl (i := nI (k - 1)) (vp_in_nI (show k - 1 < 96 by omega) (by decide)) d_Big_isAtLeast_44 ?_
          refine tv_i (f (k - 1)) (by rw [nI_clamp (by omega)]) ?_
          refine lv_aload_n hx hb d_Big_isAtLeast_45 rfl (lv_at hl 1 rfl) ?_
          refine va_get (D := D) (ci := 0) (v := .ref a2) (C := R_Big) (T := F_Big) (N := 2) hx hb hts w_Big hown hK hP 2 rfl rfl 0 (by decide) (hts _ kF_Big_9) (fun _ h9 => h9) rfl d_Big_isAtLeast_46 ?_
          refine lv_iload_n hx hb d_Big_isAtLeast_49 rfl (lv_at hl 2 rfl) ?_
          refine tv_i (nI (k - 1)) (nI_dec e36) ?_
          refine va_iald hx hb hK hP 3 1 rfl rfl (i := nI (k - 1)) (vp_in_nI (show k - 1 < 96 by omega) (by decide)) d_Big_isAtLeast_50 ?_
          refine tv_i (o (k - 1)) (by rw [nI_clamp (by omega)]) ?_
          refine lv_icmp_eq (tgt := 86) hx hb d_Big_isAtLeast_51 (by decide) (fun c51 => ?_) (fun c51 => ?_)
          · refine lv_iinc (v := nI (k - 1) - 1) (lv' := [(2, .int (nI (k - 1) - 1)), (0, .ref h), (1, .ref h2)]) hx hb d_Big_isAtLeast_86 hl (k := 2) rfl (nI_dn e36) (by decide) rfl (fun ls hl => ?_)
            refine lv_goto (tgt := 35) hx hb d_Big_isAtLeast_89 (by decide) ?_
            exact ih (k - 1) (by omega) (by omega) (fun j h1 h2 => by rcases Nat.lt_or_ge j k with z | z; (· rw [show j = k - 1 by omega]; exact c51); exact he j z h2) _ _ _ (hP.sub [0, 1, 2, 3] rfl) (hD.sub [0, 1, 2, 3] (by decide) rfl) hS (lv_sub hl [1, 2, 0] rfl)
          · refine lv_aload_n hx hb d_Big_isAtLeast_54 rfl (lv_at hl 0 rfl) ?_
            refine va_get (D := D) (ci := 0) (v := .ref a) (C := R_Big) (T := F_Big) (N := 2) hx hb hts w_Big hown hK hP 0 rfl rfl 0 (by decide) (hts _ kF_Big_9) (fun _ h9 => h9) rfl d_Big_isAtLeast_55 ?_
            refine lv_iload_n hx hb d_Big_isAtLeast_58 rfl (lv_at hl 2 rfl) ?_
            refine tv_i (nI (k - 1)) (nI_dec e36) ?_
            refine va_iald hx hb hK hP 1 0 rfl rfl (i := nI (k - 1)) (vp_in_nI (show k - 1 < 96 by omega) (by decide)) d_Big_isAtLeast_59 ?_
            refine tv_i (f (k - 1)) (by rw [nI_clamp (by omega)]) ?_
            refine lv_i2l (v := (f (k - 1)).toInt64) hx hb d_Big_isAtLeast_60 (rfl) ?_
            refine lv_ldc2 hx hb hown (hts _ kK_Big_20) d_Big_isAtLeast_61 ?_
            refine lv_land hx hb d_Big_isAtLeast_64 ?_
            refine tv_l (lN (w32 (f (k - 1)))) (lim _) ?_
            refine lv_aload_n hx hb d_Big_isAtLeast_65 rfl (lv_at hl 1 rfl) ?_
            refine va_get (D := D) (ci := 0) (v := .ref a2) (C := R_Big) (T := F_Big) (N := 2) hx hb hts w_Big hown hK hP 2 rfl rfl 0 (by decide) (hts _ kF_Big_9) (fun _ h9 => h9) rfl d_Big_isAtLeast_66 ?_
            refine lv_iload_n hx hb d_Big_isAtLeast_69 rfl (lv_at hl 2 rfl) ?_
            refine tv_i (nI (k - 1)) (nI_dec e36) ?_
            refine va_iald hx hb hK hP 3 1 rfl rfl (i := nI (k - 1)) (vp_in_nI (show k - 1 < 96 by omega) (by decide)) d_Big_isAtLeast_70 ?_
            refine tv_i (o (k - 1)) (by rw [nI_clamp (by omega)]) ?_
            refine lv_i2l (v := (o (k - 1)).toInt64) hx hb d_Big_isAtLeast_71 (rfl) ?_
            refine lv_ldc2 hx hb hown (hts _ kK_Big_20) d_Big_isAtLeast_72 ?_
            refine lv_land hx hb d_Big_isAtLeast_75 ?_
            refine tv_l (lN (w32 (o (k - 1)))) (lim _) ?_
            refine W.lcmp hx hb d_Big_isAtLeast_76 ?_
            refine lv_if_le (tgt := 84) hx hb d_Big_isAtLeast_77 (by decide) (fun c77 => ?_) (fun c77 => ?_)
            · have q1 := w32_lt (f (k - 1))
              have q2 := w32_lt (o (k - 1))
              have q3 : w32 (f (k - 1)) ≠ w32 (o (k - 1)) := fun z => c51 (w32_inj z)
              have e77 : w32 (f (k - 1)) ≤ w32 (o (k - 1)) := (pk_lLE (by omega) (by omega)).mp ((lg_cmp_le _ _).mp c77)
              refine lv_iconst (v := 0) hx hb d_Big_isAtLeast_84 (by decide) ?_
              exact rt_i hx hb hrt hlocks (rfl) (()) (⟨Or.inr rfl, iff_of_false (by decide) (by have h9 := cp_at (f := o) (g := f) (n := n) (i := k - 1) (by omega) (fun j h1 h2 => (he j (by omega) h2).symm) (by omega); have := hB.1; have h8 := hO.1; rw [← e8] at h8; omega)⟩) (hP.sub [0, 1, 2, 3] rfl) (hK.sub [0, 1] rfl) (hD.sub [0, 1, 2, 3] (by decide) rfl) hS d_Big_isAtLeast_85
            · have q1 := w32_lt (f (k - 1))
              have q2 := w32_lt (o (k - 1))
              have e77 : ¬ w32 (f (k - 1)) ≤ w32 (o (k - 1)) := fun z => c77 ((lg_cmp_le _ _).mpr ((pk_lLE (by omega) (by omega)).mpr z))
              refine lv_iconst (v := 1) hx hb d_Big_isAtLeast_80 (by decide) ?_
              refine lv_goto (tgt := 85) hx hb d_Big_isAtLeast_81 (by decide) ?_
              exact rt_i hx hb hrt hlocks (rfl) (()) (⟨Or.inl rfl, iff_of_true rfl (by have h9 := cp_at (f := f) (g := o) (n := n) (i := k - 1) (by omega) (fun j h1 h2 => he j (by omega) h2) (by omega); have := hB.1; have h8 := hO.1; rw [← e8] at h8; omega)⟩) (hP.sub [0, 1, 2, 3] rfl) (hK.sub [0, 1] rfl) (hD.sub [0, 1, 2, 3] (by decide) rfl) hS d_Big_isAtLeast_85
    exact L35 (n + 1) n (by omega) (Nat.le_refl n) (fun j h1 h2 => absurd h2 (by omega)) _ _ _ (hP.sub [0, 1, 2, 3] rfl) (hD.sub [0, 1, 2, 3] (by decide) rfl) hS (lv_sub hl [1, 2, 0] rfl)
  · have e8 : n ≠ n2 := fun z => c8 ((nI_eq (by omega) (by omega)).mpr z)
    refine lv_aload_n hx hb d_Big_isAtLeast_11 rfl (lv_at hl 0 rfl) ?_
    refine va_get (D := D) (ci := 0) (v := .int (nI n)) (C := R_Big) (T := F_Big) (N := 2) hx hb hts w_Big hown hK hP 0 rfl rfl 1 (by decide) (hts _ kF_Big_13) (fun _ h9 => h9) rfl d_Big_isAtLeast_12 ?_
    refine lv_aload_n hx hb d_Big_isAtLeast_15 rfl (lv_at hl 1 rfl) ?_
    refine va_get (D := D) (ci := 0) (v := .int (nI n2)) (C := R_Big) (T := F_Big) (N := 2) hx hb hts w_Big hown hK hP 2 rfl rfl 1 (by decide) (hts _ kF_Big_13) (fun _ h9 => h9) rfl d_Big_isAtLeast_16 ?_
    refine lv_icmp_le (tgt := 26) hx hb d_Big_isAtLeast_19 (by decide) (fun c19 => ?_) (fun c19 => ?_)
    · have e19 : n ≤ n2 := (nI_leI (by omega) (by omega)).mp c19
      refine lv_iconst (v := 0) hx hb d_Big_isAtLeast_26 (by decide) ?_
      exact rt_i hx hb hrt hlocks (rfl) (()) (⟨Or.inr rfl, iff_of_false (by decide) (by have := cp_n hO hB (by omega); omega)⟩) (hP.sub [0, 1, 2, 3] rfl) (hK.sub [0, 1] rfl) (hD.sub [0, 1, 2, 3] (by decide) rfl) hS d_Big_isAtLeast_27
    · have e19 : n2 < n := Nat.lt_of_not_le (fun z => c19 ((nI_leI (by omega) (by omega)).mpr z))
      refine lv_iconst (v := 1) hx hb d_Big_isAtLeast_22 (by decide) ?_
      refine lv_goto (tgt := 27) hx hb d_Big_isAtLeast_23 (by decide) ?_
      exact rt_i hx hb hrt hlocks (rfl) (()) (⟨Or.inl rfl, iff_of_true rfl (by have := cp_n hB hO (by omega); omega)⟩) (hP.sub [0, 1, 2, 3] rfl) (hK.sub [0, 1] rfl) (hD.sub [0, 1, 2, 3] (by decide) rfl) hS d_Big_isAtLeast_27
