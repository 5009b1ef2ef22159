theorem d_Rea_bitLengthOf_0 : decode b_Rea_bitLengthOf 0 = .ok (.lload_n 0, 1) := by decide +kernel
theorem d_Rea_bitLengthOf_1 : decode b_Rea_bitLengthOf 1 = .ok (.lstore_n 2, 1) := by decide +kernel
theorem d_Rea_bitLengthOf_2 : decode b_Rea_bitLengthOf 2 = .ok (.iconst 0, 1) := by decide +kernel
theorem d_Rea_bitLengthOf_3 : decode b_Rea_bitLengthOf 3 = .ok (.istore 4, 2) := by decide +kernel
theorem d_Rea_bitLengthOf_5 : decode b_Rea_bitLengthOf 5 = .ok (.bipush 32, 2) := by decide +kernel
theorem d_Rea_bitLengthOf_7 : decode b_Rea_bitLengthOf 7 = .ok (.istore 5, 2) := by decide +kernel
theorem d_Rea_bitLengthOf_9 : decode b_Rea_bitLengthOf 9 = .ok (.iload 5, 2) := by decide +kernel
theorem d_Rea_bitLengthOf_11 : decode b_Rea_bitLengthOf 11 = .ok (.ifCond .le 33, 3) := by decide +kernel
theorem d_Rea_bitLengthOf_14 : decode b_Rea_bitLengthOf 14 = .ok (.lload_n 2, 1) := by decide +kernel
theorem d_Rea_bitLengthOf_15 : decode b_Rea_bitLengthOf 15 = .ok (.iload 5, 2) := by decide +kernel
theorem d_Rea_bitLengthOf_17 : decode b_Rea_bitLengthOf 17 = .ok (.lushr, 1) := by decide +kernel
theorem d_Rea_bitLengthOf_18 : decode b_Rea_bitLengthOf 18 = .ok (.lconst 0, 1) := by decide +kernel
theorem d_Rea_bitLengthOf_19 : decode b_Rea_bitLengthOf 19 = .ok (.lcmp, 1) := by decide +kernel
theorem d_Rea_bitLengthOf_20 : decode b_Rea_bitLengthOf 20 = .ok (.ifCond .eq 15, 3) := by decide +kernel
theorem d_Rea_bitLengthOf_23 : decode b_Rea_bitLengthOf 23 = .ok (.lload_n 2, 1) := by decide +kernel
theorem d_Rea_bitLengthOf_24 : decode b_Rea_bitLengthOf 24 = .ok (.iload 5, 2) := by decide +kernel
theorem d_Rea_bitLengthOf_26 : decode b_Rea_bitLengthOf 26 = .ok (.lushr, 1) := by decide +kernel
theorem d_Rea_bitLengthOf_27 : decode b_Rea_bitLengthOf 27 = .ok (.lstore_n 2, 1) := by decide +kernel
theorem d_Rea_bitLengthOf_28 : decode b_Rea_bitLengthOf 28 = .ok (.iload 4, 2) := by decide +kernel
theorem d_Rea_bitLengthOf_30 : decode b_Rea_bitLengthOf 30 = .ok (.iload 5, 2) := by decide +kernel
theorem d_Rea_bitLengthOf_32 : decode b_Rea_bitLengthOf 32 = .ok (.iadd, 1) := by decide +kernel
theorem d_Rea_bitLengthOf_33 : decode b_Rea_bitLengthOf 33 = .ok (.istore 4, 2) := by decide +kernel
theorem d_Rea_bitLengthOf_35 : decode b_Rea_bitLengthOf 35 = .ok (.iload 5, 2) := by decide +kernel
theorem d_Rea_bitLengthOf_37 : decode b_Rea_bitLengthOf 37 = .ok (.iconst 1, 1) := by decide +kernel
theorem d_Rea_bitLengthOf_38 : decode b_Rea_bitLengthOf 38 = .ok (.ishr, 1) := by decide +kernel
theorem d_Rea_bitLengthOf_39 : decode b_Rea_bitLengthOf 39 = .ok (.istore 5, 2) := by decide +kernel
theorem d_Rea_bitLengthOf_41 : decode b_Rea_bitLengthOf 41 = .ok (.goto (-32), 3) := by decide +kernel
theorem d_Rea_bitLengthOf_44 : decode b_Rea_bitLengthOf 44 = .ok (.lload_n 2, 1) := by decide +kernel
theorem d_Rea_bitLengthOf_45 : decode b_Rea_bitLengthOf 45 = .ok (.lconst 0, 1) := by decide +kernel
theorem d_Rea_bitLengthOf_46 : decode b_Rea_bitLengthOf 46 = .ok (.lcmp, 1) := by decide +kernel
theorem d_Rea_bitLengthOf_47 : decode b_Rea_bitLengthOf 47 = .ok (.ifCond .ne 7, 3) := by decide +kernel
theorem d_Rea_bitLengthOf_50 : decode b_Rea_bitLengthOf 50 = .ok (.iconst 0, 1) := by decide +kernel
theorem d_Rea_bitLengthOf_51 : decode b_Rea_bitLengthOf 51 = .ok (.goto 7, 3) := by decide +kernel
theorem d_Rea_bitLengthOf_54 : decode b_Rea_bitLengthOf 54 = .ok (.iload 4, 2) := by decide +kernel
theorem d_Rea_bitLengthOf_56 : decode b_Rea_bitLengthOf 56 = .ok (.iconst 1, 1) := by decide +kernel
theorem d_Rea_bitLengthOf_57 : decode b_Rea_bitLengthOf 57 = .ok (.iadd, 1) := by decide +kernel
theorem d_Rea_bitLengthOf_58 : decode b_Rea_bitLengthOf 58 = .ok (.ireturn, 1) := by decide +kernel
theorem d_Rea_digitOf_0 : decode b_Rea_digitOf 0 = .ok (.iload_n 0, 1) := by decide +kernel
theorem d_Rea_digitOf_1 : decode b_Rea_digitOf 1 = .ok (.bipush 48, 2) := by decide +kernel
theorem d_Rea_digitOf_3 : decode b_Rea_digitOf 3 = .ok (.if_icmp .lt 14, 3) := by decide +kernel
theorem d_Rea_digitOf_6 : decode b_Rea_digitOf 6 = .ok (.iload_n 0, 1) := by decide +kernel
theorem d_Rea_digitOf_7 : decode b_Rea_digitOf 7 = .ok (.bipush 57, 2) := by decide +kernel
theorem d_Rea_digitOf_9 : decode b_Rea_digitOf 9 = .ok (.if_icmp .gt 8, 3) := by decide +kernel
theorem d_Rea_digitOf_12 : decode b_Rea_digitOf 12 = .ok (.iload_n 0, 1) := by decide +kernel
theorem d_Rea_digitOf_13 : decode b_Rea_digitOf 13 = .ok (.bipush 48, 2) := by decide +kernel
theorem d_Rea_digitOf_15 : decode b_Rea_digitOf 15 = .ok (.isub, 1) := by decide +kernel
theorem d_Rea_digitOf_16 : decode b_Rea_digitOf 16 = .ok (.ireturn, 1) := by decide +kernel
theorem d_Rea_digitOf_17 : decode b_Rea_digitOf 17 = .ok (.iload_n 0, 1) := by decide +kernel
theorem d_Rea_digitOf_18 : decode b_Rea_digitOf 18 = .ok (.bipush 97, 2) := by decide +kernel
theorem d_Rea_digitOf_20 : decode b_Rea_digitOf 20 = .ok (.if_icmp .lt 17, 3) := by decide +kernel
theorem d_Rea_digitOf_23 : decode b_Rea_digitOf 23 = .ok (.iload_n 0, 1) := by decide +kernel
theorem d_Rea_digitOf_24 : decode b_Rea_digitOf 24 = .ok (.bipush 102, 2) := by decide +kernel
theorem d_Rea_digitOf_26 : decode b_Rea_digitOf 26 = .ok (.if_icmp .gt 11, 3) := by decide +kernel
theorem d_Rea_digitOf_29 : decode b_Rea_digitOf 29 = .ok (.iload_n 0, 1) := by decide +kernel
theorem d_Rea_digitOf_30 : decode b_Rea_digitOf 30 = .ok (.bipush 97, 2) := by decide +kernel
theorem d_Rea_digitOf_32 : decode b_Rea_digitOf 32 = .ok (.isub, 1) := by decide +kernel
theorem d_Rea_digitOf_33 : decode b_Rea_digitOf 33 = .ok (.bipush 10, 2) := by decide +kernel
theorem d_Rea_digitOf_35 : decode b_Rea_digitOf 35 = .ok (.iadd, 1) := by decide +kernel
theorem d_Rea_digitOf_36 : decode b_Rea_digitOf 36 = .ok (.ireturn, 1) := by decide +kernel
theorem d_Rea_digitOf_37 : decode b_Rea_digitOf 37 = .ok (.iload_n 0, 1) := by decide +kernel
theorem d_Rea_digitOf_38 : decode b_Rea_digitOf 38 = .ok (.bipush 65, 2) := by decide +kernel
theorem d_Rea_digitOf_40 : decode b_Rea_digitOf 40 = .ok (.if_icmp .lt 17, 3) := by decide +kernel
theorem d_Rea_digitOf_43 : decode b_Rea_digitOf 43 = .ok (.iload_n 0, 1) := by decide +kernel
theorem d_Rea_digitOf_44 : decode b_Rea_digitOf 44 = .ok (.bipush 70, 2) := by decide +kernel
theorem d_Rea_digitOf_46 : decode b_Rea_digitOf 46 = .ok (.if_icmp .gt 11, 3) := by decide +kernel
theorem d_Rea_digitOf_49 : decode b_Rea_digitOf 49 = .ok (.iload_n 0, 1) := by decide +kernel
theorem d_Rea_digitOf_50 : decode b_Rea_digitOf 50 = .ok (.bipush 65, 2) := by decide +kernel
theorem d_Rea_digitOf_52 : decode b_Rea_digitOf 52 = .ok (.isub, 1) := by decide +kernel
theorem d_Rea_digitOf_53 : decode b_Rea_digitOf 53 = .ok (.bipush 10, 2) := by decide +kernel
theorem d_Rea_digitOf_55 : decode b_Rea_digitOf 55 = .ok (.iadd, 1) := by decide +kernel
theorem d_Rea_digitOf_56 : decode b_Rea_digitOf 56 = .ok (.ireturn, 1) := by decide +kernel
theorem d_Rea_digitOf_57 : decode b_Rea_digitOf 57 = .ok (.bipush 16, 2) := by decide +kernel
theorem d_Rea_digitOf_59 : decode b_Rea_digitOf 59 = .ok (.ireturn, 1) := by decide +kernel
theorem d_Rea_countCharacters_0 : decode b_Rea_countCharacters 0 = .ok (.iconst 0, 1) := by decide +kernel
theorem d_Rea_countCharacters_1 : decode b_Rea_countCharacters 1 = .ok (.istore_n 2, 1) := by decide +kernel
theorem d_Rea_countCharacters_2 : decode b_Rea_countCharacters 2 = .ok (.bipush 56, 2) := by decide +kernel
theorem d_Rea_countCharacters_4 : decode b_Rea_countCharacters 4 = .ok (.istore_n 3, 1) := by decide +kernel
theorem d_Rea_countCharacters_5 : decode b_Rea_countCharacters 5 = .ok (.iload_n 3, 1) := by decide +kernel
theorem d_Rea_countCharacters_6 : decode b_Rea_countCharacters 6 = .ok (.ifCond .lt 24, 3) := by decide +kernel
theorem d_Rea_countCharacters_9 : decode b_Rea_countCharacters 9 = .ok (.lload_n 0, 1) := by decide +kernel
theorem d_Rea_countCharacters_10 : decode b_Rea_countCharacters 10 = .ok (.iload_n 3, 1) := by decide +kernel
theorem d_Rea_countCharacters_11 : decode b_Rea_countCharacters 11 = .ok (.lushr, 1) := by decide +kernel
theorem d_Rea_countCharacters_12 : decode b_Rea_countCharacters 12 = .ok (.ldc2_w 48, 3) := by decide +kernel
theorem d_Rea_countCharacters_15 : decode b_Rea_countCharacters 15 = .ok (.land, 1) := by decide +kernel
theorem d_Rea_countCharacters_16 : decode b_Rea_countCharacters 16 = .ok (.lconst 0, 1) := by decide +kernel
theorem d_Rea_countCharacters_17 : decode b_Rea_countCharacters 17 = .ok (.lcmp, 1) := by decide +kernel
theorem d_Rea_countCharacters_18 : decode b_Rea_countCharacters 18 = .ok (.ifCond .eq 6, 3) := by decide +kernel
theorem d_Rea_countCharacters_21 : decode b_Rea_countCharacters 21 = .ok (.iinc 2 1, 3) := by decide +kernel
theorem d_Rea_countCharacters_24 : decode b_Rea_countCharacters 24 = .ok (.iinc 3 (-8), 3) := by decide +kernel
theorem d_Rea_countCharacters_27 : decode b_Rea_countCharacters 27 = .ok (.goto (-22), 3) := by decide +kernel
theorem d_Rea_countCharacters_30 : decode b_Rea_countCharacters 30 = .ok (.iload_n 2, 1) := by decide +kernel
theorem d_Rea_countCharacters_31 : decode b_Rea_countCharacters 31 = .ok (.ireturn, 1) := by decide +kernel
set_option maxHeartbeats 4000000 in
set_option maxRecDepth 100000 in
theorem c_Rea_bitLengthOf (l : Launch) (D : va_G) (E : evD) (x : Nat) (hx64 : x < 2 ^ 64) : Ci (S := Unit) l y_Rea_bitLengthOf (wz y_Rea_bitLengthOf b_Rea_bitLengthOf 6 (some .int)) ({ frames := 0, cells := 0, slots := 0, locals := 0 }) D vcl (ev1 E) [.long (lN x)] [] [] 0 0 (fun (r : Int32) (_ : Unit) => r = nI (bln x)) (fun _ => []) (fun _ : Unit => []) := by
  have hev := ev1_ok E
  unfold Ci
  refine ct_of (y := y_Rea_bitLengthOf) (av := [.long (lN x)]) (cc := b_Rea_bitLengthOf) (maxL := 6) (ret := (some .int)) (Qc := fun A => va_Qi (S := Unit) (fun (r : Int32) (_ : Unit) => r = nI (bln x)) (fun u tS => ctB D vcl ((fun _ => []) u) ((fun _ : Unit => []) u) A tS) A) (by decide) rfl (Nat.le_of_ble_eq_true rfl) ?_
  intro p ee s m below meth cde ls A H locs hx hb hml hrt hlocks hown hin hts hA hP hK hD hS hE hl
  have hown : s.vm.findClass R_Rea = some m.cls := hown
  have hts := wz_g hts
  have hl : lv_has ls 6 [(0, .long (lN x))] := hl
  refine lv_lload_n hx hb d_Rea_bitLengthOf_0 rfl (lv_at hl 0 rfl) ?_
  refine lv_lstore_n (lv' := [(2, .long (lN x)), (0, .long (lN x))]) hx hb d_Rea_bitLengthOf_1 rfl hl (by decide) rfl (fun ls hl => ?_)
  refine lv_iconst (v := 0) hx hb d_Rea_bitLengthOf_2 (by decide) ?_
  refine tv_i (nI 0) (rfl) ?_
  refine lv_istore (lv' := [(4, .int (nI 0)), (2, .long (lN x)), (0, .long (lN x))]) hx hb d_Rea_bitLengthOf_3 hl (by decide) rfl (fun ls hl => ?_)
  refine lv_bipush (v := 32) hx hb d_Rea_bitLengthOf_5 (by decide) ?_
  refine tv_i (nI (stp 6)) (by decide) ?_
  refine lv_istore (lv' := [(5, .int (nI (stp 6))), (4, .int (nI 0)), (2, .long (lN x)), (0, .long (lN x))]) hx hb d_Rea_bitLengthOf_7 hl (by decide) rfl (fun ls hl => ?_)
  have L9 : ∀ (kk : Nat) (j : Nat) (r : Nat) (ct : Nat), j < kk → (j < 7) → (r < 2 ^ (2 ^ j)) → (r < 2 ^ 64) → (ct + 2 ^ j ≤ 64) → (r = x / 2 ^ ct) → (x ≠ 0 → r ≠ 0) → ∀ (H : Heap) (locs : List Loc) (ls : Array Slot), va_P D vcl [] H → va_D A [] → va_S A s.heap H locs → lv_has ls 6 [(2, .long (lN r)), (4, .int (nI ct)), (5, .int (nI (stp j)))] → W p l ee ({ frames := 0, cells := 0, slots := 0, locals := 0 }) s m ([.long (lN x)] : List Value).toArray below meth cde H locs 0 0 (MQ below (va_Qi (S := Unit) (fun (r : Int32) (_ : Unit) => r = nI (bln x)) (fun u tS => ctB D vcl ((fun _ => []) u) ((fun _ : Unit => []) u) A tS) A) ([.long (lN x)] : List Value).toArray s 0 0 A) (F0 m 9 ls []) := by
    intro kk
    induction kk with
    | zero => intro j r ct hmz; exact absurd hmz (Nat.not_lt_zero _)
    | succ kk ih =>
      intro j r ct hmz hj hr hr64 hc he h0 H locs ls hP hD hS hl
      refine lv_iload hx hb d_Rea_bitLengthOf_9 (lv_at hl 2 rfl) ?_
      refine lv_if_le (tgt := 44) hx hb d_Rea_bitLengthOf_11 (by decide) (fun c11 => ?_) (fun c11 => ?_)
      · have e11 : j = 0 := (stp_0 j hj).mp c11
        rw [e11] at hr
        refine lv_lload_n hx hb d_Rea_bitLengthOf_44 rfl (lv_at hl 0 rfl) ?_
        refine lv_lconst (v := 0) hx hb d_Rea_bitLengthOf_45 (by decide) ?_
        refine W.lcmp hx hb d_Rea_bitLengthOf_46 ?_
        refine lv_if_ne (tgt := 54) hx hb d_Rea_bitLengthOf_47 (by decide) (fun c47 => ?_) (fun c47 => ?_)
        · have e47 : bln x = ct + 1 := (bl_end he hr h0).2 (fun z => c47 ((lg_cmp_eq _ _).mpr (by rw [z]; rfl)))
          refine lv_iload hx hb d_Rea_bitLengthOf_54 (lv_at hl 1 rfl) ?_
          refine lv_iconst (v := 1) hx hb d_Rea_bitLengthOf_56 (by decide) ?_
          refine lv_iadd hx hb d_Rea_bitLengthOf_57 ?_
          refine tv_i (nI (ct + 1)) (nI_1 ct) ?_
          exact rt_i hx hb hrt hlocks (rfl) (()) (by rw [e47]) (hP.sub [] rfl) (hK.sub [] rfl) (hD.sub [] (by decide) rfl) hS d_Rea_bitLengthOf_58
        · have e47 : bln x = 0 := (bl_end he hr h0).1 ((lN_ne0 hr64).mp ((lg_cmp_eq _ _).mp c47))
          refine lv_iconst (v := 0) hx hb d_Rea_bitLengthOf_50 (by decide) ?_
          refine lv_goto (tgt := 58) hx hb d_Rea_bitLengthOf_51 (by decide) ?_
          exact rt_i hx hb hrt hlocks (rfl) (()) (by rw [e47]; rfl) (hP.sub [] rfl) (hK.sub [] rfl) (hD.sub [] (by decide) rfl) hS d_Rea_bitLengthOf_58
      · have e11 : 0 < j := Nat.pos_of_ne_zero (fun z => c11 ((stp_0 j hj).mpr z))
        refine lv_lload_n hx hb d_Rea_bitLengthOf_14 rfl (lv_at hl 0 rfl) ?_
        refine lv_iload hx hb d_Rea_bitLengthOf_15 (lv_at hl 2 rfl) ?_
        refine lv_lushr (v := lN (r / 2 ^ stp j)) hx hb d_Rea_bitLengthOf_17 (wb_shr hr64 (stp_lt j hj)) ?_
        refine lv_lconst (v := 0) hx hb d_Rea_bitLengthOf_18 (by decide) ?_
        refine W.lcmp hx hb d_Rea_bitLengthOf_19 ?_
        refine lv_if_eq (tgt := 35) hx hb d_Rea_bitLengthOf_20 (by decide) (fun c20 => ?_) (fun c20 => ?_)
        · have e20 : r / 2 ^ stp j = 0 := (lN_ne0 (Nat.lt_of_le_of_lt (Nat.div_le_self _ _) hr64)).mp ((lg_cmp_eq _ _).mp c20)
          refine lv_iload hx hb d_Rea_bitLengthOf_35 (lv_at hl 2 rfl) ?_
          refine lv_iconst (v := 1) hx hb d_Rea_bitLengthOf_37 (by decide) ?_
          refine lv_ishr hx hb d_Rea_bitLengthOf_38 ?_
          refine tv_i (nI (stp (j - 1))) (stp_h j hj) ?_
          refine lv_istore (lv' := [(5, .int (nI (stp (j - 1)))), (2, .long (lN r)), (4, .int (nI ct))]) hx hb d_Rea_bitLengthOf_39 hl (by decide) rfl (fun ls hl => ?_)
          refine lv_goto (tgt := 9) hx hb d_Rea_bitLengthOf_41 (by decide) ?_
          exact ih (j - 1) r ct (by omega) (by omega) (bl_dn e11 e20) (hr64) (by have := stp_d e11; omega) (he) (h0) _ _ _ (hP.sub [] rfl) (hD.sub [] (by decide) rfl) hS (lv_sub hl [1, 2, 0] rfl)
        · have e20 : r / 2 ^ stp j ≠ 0 := fun z => c20 ((lg_cmp_eq _ _).mpr ((lN_ne0 (Nat.lt_of_le_of_lt (Nat.div_le_self _ _) hr64)).mpr z))
          refine lv_lload_n hx hb d_Rea_bitLengthOf_23 rfl (lv_at hl 0 rfl) ?_
          refine lv_iload hx hb d_Rea_bitLengthOf_24 (lv_at hl 2 rfl) ?_
          refine lv_lushr (v := lN (r / 2 ^ stp j)) hx hb d_Rea_bitLengthOf_26 (wb_shr hr64 (stp_lt j hj)) ?_
          refine lv_lstore_n (lv' := [(2, .long (lN (r / 2 ^ stp j))), (4, .int (nI ct)), (5, .int (nI (stp j)))]) hx hb d_Rea_bitLengthOf_27 rfl hl (by decide) rfl (fun ls hl => ?_)
          refine lv_iload hx hb d_Rea_bitLengthOf_28 (lv_at hl 1 rfl) ?_
          refine lv_iload hx hb d_Rea_bitLengthOf_30 (lv_at hl 2 rfl) ?_
          refine lv_iadd hx hb d_Rea_bitLengthOf_32 ?_
          refine tv_i (nI (ct + stp j)) (nI_add _ _) ?_
          refine lv_istore (lv' := [(4, .int (nI (ct + stp j))), (2, .long (lN (r / 2 ^ stp j))), (5, .int (nI (stp j)))]) hx hb d_Rea_bitLengthOf_33 hl (by decide) rfl (fun ls hl => ?_)
          refine lv_iload hx hb d_Rea_bitLengthOf_35 (lv_at hl 2 rfl) ?_
          refine lv_iconst (v := 1) hx hb d_Rea_bitLengthOf_37 (by decide) ?_
          refine lv_ishr hx hb d_Rea_bitLengthOf_38 ?_
          refine tv_i (nI (stp (j - 1))) (stp_h j hj) ?_
          refine lv_istore (lv' := [(5, .int (nI (stp (j - 1)))), (4, .int (nI (ct + stp j))), (2, .long (lN (r / 2 ^ stp j)))]) hx hb d_Rea_bitLengthOf_39 hl (by decide) rfl (fun ls hl => ?_)
          refine lv_goto (tgt := 9) hx hb d_Rea_bitLengthOf_41 (by decide) ?_
          exact ih (j - 1) (r / 2 ^ stp j) (ct + stp j) (by omega) (by omega) (bl_up e11 hr) (Nat.lt_of_le_of_lt (Nat.div_le_self _ _) hr64) (by have := stp_d e11; omega) (by rw [he, Nat.div_div_eq_div_mul, ← Nat.pow_add]) (fun _ => e20) _ _ _ (hP.sub [] rfl) (hD.sub [] (by decide) rfl) hS (lv_sub hl [2, 1, 0] rfl)
  exact L9 7 6 x 0 (by decide) (by decide) (hx64) (hx64) (by decide) (by rw [Nat.pow_zero, Nat.div_one]) (fun h => h) _ _ _ (hP.sub [] rfl) (hD.sub [] (by decide) rfl) hS (lv_sub hl [2, 1, 0] rfl)

set_option maxHeartbeats 4000000 in
set_option maxRecDepth 100000 in
theorem c_Rea_digitOf (l : Launch) (D : va_G) (E : evD) (c : Nat) (hc : c < 65536) : Ci (S := Unit) l y_Rea_digitOf (wz y_Rea_digitOf b_Rea_digitOf 1 (some .int)) ({ frames := 0, cells := 0, slots := 0, locals := 0 }) D vcl (ev1 E) [.int (nI c)] [] [] 0 0 (fun (r : Int32) (_ : Unit) => r = nI (dg c)) (fun _ => []) (fun _ : Unit => []) := by
  have hev := ev1_ok E
  unfold Ci
  refine ct_of (y := y_Rea_digitOf) (av := [.int (nI c)]) (cc := b_Rea_digitOf) (maxL := 1) (ret := (some .int)) (Qc := fun A => va_Qi (S := Unit) (fun (r : Int32) (_ : Unit) => r = nI (dg c)) (fun u tS => ctB D vcl ((fun _ => []) u) ((fun _ : Unit => []) u) A tS) A) (by decide) rfl (Nat.le_of_ble_eq_true rfl) ?_
  intro p ee s m below meth cde ls A H locs hx hb hml hrt hlocks hown hin hts hA hP hK hD hS hE hl
  have hown : s.vm.findClass R_Rea = some m.cls := hown
  have hts := wz_g hts
  have hl : lv_has ls 1 [(0, .int (nI c))] := hl
  refine lv_iload_n hx hb d_Rea_digitOf_0 rfl (lv_at hl 0 rfl) ?_
  refine lv_bipush (v := 48) hx hb d_Rea_digitOf_1 (by decide) ?_
  refine lv_icmp_lt (tgt := 17) hx hb d_Rea_digitOf_3 (by decide) (fun c3 => ?_) (fun c3 => ?_)
  · have e3 : c < 48 := (nI_ltI (b := 48) (by omega) (by decide)).mp c3
    refine lv_iload_n hx hb d_Rea_digitOf_17 rfl (lv_at hl 0 rfl) ?_
    refine lv_bipush (v := 97) hx hb d_Rea_digitOf_18 (by decide) ?_
    refine lv_icmp_lt (tgt := 37) hx hb d_Rea_digitOf_20 (by decide) (fun c20 => ?_) (fun c20 => ?_)
    · have e20 : c < 97 := (nI_ltI (b := 97) (by omega) (by decide)).mp c20
      refine lv_iload_n hx hb d_Rea_digitOf_37 rfl (lv_at hl 0 rfl) ?_
      refine lv_bipush (v := 65) hx hb d_Rea_digitOf_38 (by decide) ?_
      refine lv_icmp_lt (tgt := 57) hx hb d_Rea_digitOf_40 (by decide) (fun c40 => ?_) (fun c40 => ?_)
      · have e40 : c < 65 := (nI_ltI (b := 65) (by omega) (by decide)).mp c40
        refine lv_bipush (v := 16) hx hb d_Rea_digitOf_57 (by decide) ?_
        refine tv_i (nI 16) (rfl) ?_
        exact rt_i hx hb hrt hlocks (rfl) (()) (congrArg nI (by unfold dg; split <;> (try split) <;> (try split) <;> omega)) (hP.sub [] rfl) (hK.sub [] rfl) (hD.sub [] (by decide) rfl) hS d_Rea_digitOf_59
      · have e40 : 65 ≤ c := Nat.le_of_not_lt (fun z => c40 ((nI_ltI (b := 65) (by omega) (by decide)).mpr z))
        refine lv_iload_n hx hb d_Rea_digitOf_43 rfl (lv_at hl 0 rfl) ?_
        refine lv_bipush (v := 70) hx hb d_Rea_digitOf_44 (by decide) ?_
        refine lv_icmp_gt (tgt := 57) hx hb d_Rea_digitOf_46 (by decide) (fun c46 => ?_) (fun c46 => ?_)
        · have e46 : 70 < c := (nI_ltI (a := 70) (by decide) (by omega)).mp c46
          refine lv_bipush (v := 16) hx hb d_Rea_digitOf_57 (by decide) ?_
          refine tv_i (nI 16) (rfl) ?_
          exact rt_i hx hb hrt hlocks (rfl) (()) (congrArg nI (by unfold dg; split <;> (try split) <;> (try split) <;> omega)) (hP.sub [] rfl) (hK.sub [] rfl) (hD.sub [] (by decide) rfl) hS d_Rea_digitOf_59
        · have e46 : c ≤ 70 := Nat.le_of_not_lt (fun z => c46 ((nI_ltI (a := 70) (by decide) (by omega)).mpr z))
          refine lv_iload_n hx hb d_Rea_digitOf_49 rfl (lv_at hl 0 rfl) ?_
          refine lv_bipush (v := 65) hx hb d_Rea_digitOf_50 (by decide) ?_
          refine lv_isub hx hb d_Rea_digitOf_52 ?_
          refine tv_i (nI (c - 65)) (pk_sub (b := 65) (by omega)) ?_
          refine lv_bipush (v := 10) hx hb d_Rea_digitOf_53 (by decide) ?_
          refine lv_iadd hx hb d_Rea_digitOf_55 ?_
          refine tv_i (nI (c - 65 + 10)) (nI_add _ 10) ?_
          exact rt_i hx hb hrt hlocks (rfl) (()) (congrArg nI (by unfold dg; split <;> (try split) <;> (try split) <;> omega)) (hP.sub [] rfl) (hK.sub [] rfl) (hD.sub [] (by decide) rfl) hS d_Rea_digitOf_56
    · have e20 : 97 ≤ c := Nat.le_of_not_lt (fun z => c20 ((nI_ltI (b := 97) (by omega) (by decide)).mpr z))
      refine lv_iload_n hx hb d_Rea_digitOf_23 rfl (lv_at hl 0 rfl) ?_
      refine lv_bipush (v := 102) hx hb d_Rea_digitOf_24 (by decide) ?_
      refine lv_icmp_gt (tgt := 37) hx hb d_Rea_digitOf_26 (by decide) (fun c26 => ?_) (fun c26 => ?_)
      · have e26 : 102 < c := (nI_ltI (a := 102) (by decide) (by omega)).mp c26
        refine lv_iload_n hx hb d_Rea_digitOf_37 rfl (lv_at hl 0 rfl) ?_
        refine lv_bipush (v := 65) hx hb d_Rea_digitOf_38 (by decide) ?_
        refine lv_icmp_lt (tgt := 57) hx hb d_Rea_digitOf_40 (by decide) (fun c40 => ?_) (fun c40 => ?_)
        · have e40 : c < 65 := (nI_ltI (b := 65) (by omega) (by decide)).mp c40
          refine lv_bipush (v := 16) hx hb d_Rea_digitOf_57 (by decide) ?_
          refine tv_i (nI 16) (rfl) ?_
          exact rt_i hx hb hrt hlocks (rfl) (()) (congrArg nI (by unfold dg; split <;> (try split) <;> (try split) <;> omega)) (hP.sub [] rfl) (hK.sub [] rfl) (hD.sub [] (by decide) rfl) hS d_Rea_digitOf_59
        · have e40 : 65 ≤ c := Nat.le_of_not_lt (fun z => c40 ((nI_ltI (b := 65) (by omega) (by decide)).mpr z))
          refine lv_iload_n hx hb d_Rea_digitOf_43 rfl (lv_at hl 0 rfl) ?_
          refine lv_bipush (v := 70) hx hb d_Rea_digitOf_44 (by decide) ?_
          refine lv_icmp_gt (tgt := 57) hx hb d_Rea_digitOf_46 (by decide) (fun c46 => ?_) (fun c46 => ?_)
          · have e46 : 70 < c := (nI_ltI (a := 70) (by decide) (by omega)).mp c46
            refine lv_bipush (v := 16) hx hb d_Rea_digitOf_57 (by decide) ?_
            refine tv_i (nI 16) (rfl) ?_
            exact rt_i hx hb hrt hlocks (rfl) (()) (congrArg nI (by unfold dg; split <;> (try split) <;> (try split) <;> omega)) (hP.sub [] rfl) (hK.sub [] rfl) (hD.sub [] (by decide) rfl) hS d_Rea_digitOf_59
          · have e46 : c ≤ 70 := Nat.le_of_not_lt (fun z => c46 ((nI_ltI (a := 70) (by decide) (by omega)).mpr z))
            refine lv_iload_n hx hb d_Rea_digitOf_49 rfl (lv_at hl 0 rfl) ?_
            refine lv_bipush (v := 65) hx hb d_Rea_digitOf_50 (by decide) ?_
            refine lv_isub hx hb d_Rea_digitOf_52 ?_
            refine tv_i (nI (c - 65)) (pk_sub (b := 65) (by omega)) ?_
            refine lv_bipush (v := 10) hx hb d_Rea_digitOf_53 (by decide) ?_
            refine lv_iadd hx hb d_Rea_digitOf_55 ?_
            refine tv_i (nI (c - 65 + 10)) (nI_add _ 10) ?_
            exact rt_i hx hb hrt hlocks (rfl) (()) (congrArg nI (by unfold dg; split <;> (try split) <;> (try split) <;> omega)) (hP.sub [] rfl) (hK.sub [] rfl) (hD.sub [] (by decide) rfl) hS d_Rea_digitOf_56
      · have e26 : c ≤ 102 := Nat.le_of_not_lt (fun z => c26 ((nI_ltI (a := 102) (by decide) (by omega)).mpr z))
        refine lv_iload_n hx hb d_Rea_digitOf_29 rfl (lv_at hl 0 rfl) ?_
        refine lv_bipush (v := 97) hx hb d_Rea_digitOf_30 (by decide) ?_
        refine lv_isub hx hb d_Rea_digitOf_32 ?_
        refine tv_i (nI (c - 97)) (pk_sub (b := 97) (by omega)) ?_
        refine lv_bipush (v := 10) hx hb d_Rea_digitOf_33 (by decide) ?_
        refine lv_iadd hx hb d_Rea_digitOf_35 ?_
        refine tv_i (nI (c - 97 + 10)) (nI_add _ 10) ?_
        exact rt_i hx hb hrt hlocks (rfl) (()) (congrArg nI (by unfold dg; split <;> (try split) <;> (try split) <;> omega)) (hP.sub [] rfl) (hK.sub [] rfl) (hD.sub [] (by decide) rfl) hS d_Rea_digitOf_36
  · have e3 : 48 ≤ c := Nat.le_of_not_lt (fun z => c3 ((nI_ltI (b := 48) (by omega) (by decide)).mpr z))
    refine lv_iload_n hx hb d_Rea_digitOf_6 rfl (lv_at hl 0 rfl) ?_
    refine lv_bipush (v := 57) hx hb d_Rea_digitOf_7 (by decide) ?_
    refine lv_icmp_gt (tgt := 17) hx hb d_Rea_digitOf_9 (by decide) (fun c9 => ?_) (fun c9 => ?_)
    · have e9 : 57 < c := (nI_ltI (a := 57) (by decide) (by omega)).mp c9
      refine lv_iload_n hx hb d_Rea_digitOf_17 rfl (lv_at hl 0 rfl) ?_
      refine lv_bipush (v := 97) hx hb d_Rea_digitOf_18 (by decide) ?_
      refine lv_icmp_lt (tgt := 37) hx hb d_Rea_digitOf_20 (by decide) (fun c20 => ?_) (fun c20 => ?_)
      · have e20 : c < 97 := (nI_ltI (b := 97) (by omega) (by decide)).mp c20
        refine lv_iload_n hx hb d_Rea_digitOf_37 rfl (lv_at hl 0 rfl) ?_
        refine lv_bipush (v := 65) hx hb d_Rea_digitOf_38 (by decide) ?_
        refine lv_icmp_lt (tgt := 57) hx hb d_Rea_digitOf_40 (by decide) (fun c40 => ?_) (fun c40 => ?_)
        · have e40 : c < 65 := (nI_ltI (b := 65) (by omega) (by decide)).mp c40
          refine lv_bipush (v := 16) hx hb d_Rea_digitOf_57 (by decide) ?_
          refine tv_i (nI 16) (rfl) ?_
          exact rt_i hx hb hrt hlocks (rfl) (()) (congrArg nI (by unfold dg; split <;> (try split) <;> (try split) <;> omega)) (hP.sub [] rfl) (hK.sub [] rfl) (hD.sub [] (by decide) rfl) hS d_Rea_digitOf_59
        · have e40 : 65 ≤ c := Nat.le_of_not_lt (fun z => c40 ((nI_ltI (b := 65) (by omega) (by decide)).mpr z))
          refine lv_iload_n hx hb d_Rea_digitOf_43 rfl (lv_at hl 0 rfl) ?_
          refine lv_bipush (v := 70) hx hb d_Rea_digitOf_44 (by decide) ?_
          refine lv_icmp_gt (tgt := 57) hx hb d_Rea_digitOf_46 (by decide) (fun c46 => ?_) (fun c46 => ?_)
          · have e46 : 70 < c := (nI_ltI (a := 70) (by decide) (by omega)).mp c46
            refine lv_bipush (v := 16) hx hb d_Rea_digitOf_57 (by decide) ?_
            refine tv_i (nI 16) (rfl) ?_
            exact rt_i hx hb hrt hlocks (rfl) (()) (congrArg nI (by unfold dg; split <;> (try split) <;> (try split) <;> omega)) (hP.sub [] rfl) (hK.sub [] rfl) (hD.sub [] (by decide) rfl) hS d_Rea_digitOf_59
          · have e46 : c ≤ 70 := Nat.le_of_not_lt (fun z => c46 ((nI_ltI (a := 70) (by decide) (by omega)).mpr z))
            refine lv_iload_n hx hb d_Rea_digitOf_49 rfl (lv_at hl 0 rfl) ?_
            refine lv_bipush (v := 65) hx hb d_Rea_digitOf_50 (by decide) ?_
            refine lv_isub hx hb d_Rea_digitOf_52 ?_
            refine tv_i (nI (c - 65)) (pk_sub (b := 65) (by omega)) ?_
            refine lv_bipush (v := 10) hx hb d_Rea_digitOf_53 (by decide) ?_
            refine lv_iadd hx hb d_Rea_digitOf_55 ?_
            refine tv_i (nI (c - 65 + 10)) (nI_add _ 10) ?_
            exact rt_i hx hb hrt hlocks (rfl) (()) (congrArg nI (by unfold dg; split <;> (try split) <;> (try split) <;> omega)) (hP.sub [] rfl) (hK.sub [] rfl) (hD.sub [] (by decide) rfl) hS d_Rea_digitOf_56
      · have e20 : 97 ≤ c := Nat.le_of_not_lt (fun z => c20 ((nI_ltI (b := 97) (by omega) (by decide)).mpr z))
        refine lv_iload_n hx hb d_Rea_digitOf_23 rfl (lv_at hl 0 rfl) ?_
        refine lv_bipush (v := 102) hx hb d_Rea_digitOf_24 (by decide) ?_
        refine lv_icmp_gt (tgt := 37) hx hb d_Rea_digitOf_26 (by decide) (fun c26 => ?_) (fun c26 => ?_)
        · have e26 : 102 < c := (nI_ltI (a := 102) (by decide) (by omega)).mp c26
          refine lv_iload_n hx hb d_Rea_digitOf_37 rfl (lv_at hl 0 rfl) ?_
          refine lv_bipush (v := 65) hx hb d_Rea_digitOf_38 (by decide) ?_
          refine lv_icmp_lt (tgt := 57) hx hb d_Rea_digitOf_40 (by decide) (fun c40 => ?_) (fun c40 => ?_)
          · have e40 : c < 65 := (nI_ltI (b := 65) (by omega) (by decide)).mp c40
            refine lv_bipush (v := 16) hx hb d_Rea_digitOf_57 (by decide) ?_
            refine tv_i (nI 16) (rfl) ?_
            exact rt_i hx hb hrt hlocks (rfl) (()) (congrArg nI (by unfold dg; split <;> (try split) <;> (try split) <;> omega)) (hP.sub [] rfl) (hK.sub [] rfl) (hD.sub [] (by decide) rfl) hS d_Rea_digitOf_59
          · have e40 : 65 ≤ c := Nat.le_of_not_lt (fun z => c40 ((nI_ltI (b := 65) (by omega) (by decide)).mpr z))
            refine lv_iload_n hx hb d_Rea_digitOf_43 rfl (lv_at hl 0 rfl) ?_
            refine lv_bipush (v := 70) hx hb d_Rea_digitOf_44 (by decide) ?_
            refine lv_icmp_gt (tgt := 57) hx hb d_Rea_digitOf_46 (by decide) (fun c46 => ?_) (fun c46 => ?_)
            · have e46 : 70 < c := (nI_ltI (a := 70) (by decide) (by omega)).mp c46
              refine lv_bipush (v := 16) hx hb d_Rea_digitOf_57 (by decide) ?_
              refine tv_i (nI 16) (rfl) ?_
              exact rt_i hx hb hrt hlocks (rfl) (()) (congrArg nI (by unfold dg; split <;> (try split) <;> (try split) <;> omega)) (hP.sub [] rfl) (hK.sub [] rfl) (hD.sub [] (by decide) rfl) hS d_Rea_digitOf_59
            · have e46 : c ≤ 70 := Nat.le_of_not_lt (fun z => c46 ((nI_ltI (a := 70) (by decide) (by omega)).mpr z))
              refine lv_iload_n hx hb d_Rea_digitOf_49 rfl (lv_at hl 0 rfl) ?_
              refine lv_bipush (v := 65) hx hb d_Rea_digitOf_50 (by decide) ?_
              refine lv_isub hx hb d_Rea_digitOf_52 ?_
              refine tv_i (nI (c - 65)) (pk_sub (b := 65) (by omega)) ?_
              refine lv_bipush (v := 10) hx hb d_Rea_digitOf_53 (by decide) ?_
              refine lv_iadd hx hb d_Rea_digitOf_55 ?_
              refine tv_i (nI (c - 65 + 10)) (nI_add _ 10) ?_
              exact rt_i hx hb hrt hlocks (rfl) (()) (congrArg nI (by unfold dg; split <;> (try split) <;> (try split) <;> omega)) (hP.sub [] rfl) (hK.sub [] rfl) (hD.sub [] (by decide) rfl) hS d_Rea_digitOf_56
        · have e26 : c ≤ 102 := Nat.le_of_not_lt (fun z => c26 ((nI_ltI (a := 102) (by decide) (by omega)).mpr z))
          refine lv_iload_n hx hb d_Rea_digitOf_29 rfl (lv_at hl 0 rfl) ?_
          refine lv_bipush (v := 97) hx hb d_Rea_digitOf_30 (by decide) ?_
          refine lv_isub hx hb d_Rea_digitOf_32 ?_
          refine tv_i (nI (c - 97)) (pk_sub (b := 97) (by omega)) ?_
          refine lv_bipush (v := 10) hx hb d_Rea_digitOf_33 (by decide) ?_
          refine lv_iadd hx hb d_Rea_digitOf_35 ?_
          refine tv_i (nI (c - 97 + 10)) (nI_add _ 10) ?_
          exact rt_i hx hb hrt hlocks (rfl) (()) (congrArg nI (by unfold dg; split <;> (try split) <;> (try split) <;> omega)) (hP.sub [] rfl) (hK.sub [] rfl) (hD.sub [] (by decide) rfl) hS d_Rea_digitOf_36
    · have e9 : c ≤ 57 := Nat.le_of_not_lt (fun z => c9 ((nI_ltI (a := 57) (by decide) (by omega)).mpr z))
      refine lv_iload_n hx hb d_Rea_digitOf_12 rfl (lv_at hl 0 rfl) ?_
      refine lv_bipush (v := 48) hx hb d_Rea_digitOf_13 (by decide) ?_
      refine lv_isub hx hb d_Rea_digitOf_15 ?_
      refine tv_i (nI (c - 48)) (pk_sub (b := 48) (by omega)) ?_
      exact rt_i hx hb hrt hlocks (rfl) (()) (congrArg nI (by unfold dg; split <;> (try split) <;> (try split) <;> omega)) (hP.sub [] rfl) (hK.sub [] rfl) (hD.sub [] (by decide) rfl) hS d_Rea_digitOf_16

set_option maxHeartbeats 4000000 in
set_option maxRecDepth 100000 in
theorem c_Rea_countCharacters (l : Launch) (D : va_G) (E : evD) (x : Nat) (hx64 : x < 2 ^ 64) : Ci (S := Unit) l y_Rea_countCharacters (wz y_Rea_countCharacters b_Rea_countCharacters 4 (some .int)) ({ frames := 0, cells := 0, slots := 0, locals := 0 }) D vcl (ev1 E) [.long (lN x)] [] [] 0 0 (fun (r : Int32) (_ : Unit) => r = nI (cb x 8)) (fun _ => []) (fun _ : Unit => []) := by
  have hev := ev1_ok E
  unfold Ci
  refine ct_of (y := y_Rea_countCharacters) (av := [.long (lN x)]) (cc := b_Rea_countCharacters) (maxL := 4) (ret := (some .int)) (Qc := fun A => va_Qi (S := Unit) (fun (r : Int32) (_ : Unit) => r = nI (cb x 8)) (fun u tS => ctB D vcl ((fun _ => []) u) ((fun _ : Unit => []) u) A tS) A) (by decide) rfl (Nat.le_of_ble_eq_true rfl) ?_
  intro p ee s m below meth cde ls A H locs hx hb hml hrt hlocks hown hin hts hA hP hK hD hS hE hl
  have hown : s.vm.findClass R_Rea = some m.cls := hown
  have hts := wz_g hts
  have hl : lv_has ls 4 [(0, .long (lN x))] := hl
  refine lv_iconst (v := 0) hx hb d_Rea_countCharacters_0 (by decide) ?_
  refine tv_i (nI (cb x 0)) (rfl) ?_
  refine lv_istore_n (lv' := [(2, .int (nI (cb x 0))), (0, .long (lN x))]) hx hb d_Rea_countCharacters_1 rfl hl (by decide) rfl (fun ls hl => ?_)
  refine lv_bipush (v := 56) hx hb d_Rea_countCharacters_2 (by decide) ?_
  refine tv_i (zI (56 - 8 * ((0 : Nat) : Int))) (by decide) ?_
  refine lv_istore_n (lv' := [(3, .int (zI (56 - 8 * ((0 : Nat) : Int)))), (2, .int (nI (cb x 0))), (0, .long (lN x))]) hx hb d_Rea_countCharacters_4 rfl hl (by decide) rfl (fun ls hl => ?_)
  have L5 : ∀ (kk : Nat) (q : Nat), 8 - q < kk → (q ≤ 8) → ∀ (H : Heap) (locs : List Loc) (ls : Array Slot), va_P D vcl [] H → va_D A [] → va_S A s.heap H locs → lv_has ls 4 [(0, .long (lN x)), (2, .int (nI (cb x q))), (3, .int (zI (56 - 8 * (q : Int))))] → W p l ee ({ frames := 0, cells := 0, slots := 0, locals := 0 }) s m ([.long (lN x)] : List Value).toArray below meth cde H locs 0 0 (MQ below (va_Qi (S := Unit) (fun (r : Int32) (_ : Unit) => r = nI (cb x 8)) (fun u tS => ctB D vcl ((fun _ => []) u) ((fun _ : Unit => []) u) A tS) A) ([.long (lN x)] : List Value).toArray s 0 0 A) (F0 m 5 ls []) := by
    intro kk
    induction kk with
    | zero => intro q hmz; exact absurd hmz (Nat.not_lt_zero _)
    | succ kk ih =>
      intro q hmz hq H locs ls hP hD hS hl
      refine lv_iload_n hx hb d_Rea_countCharacters_5 rfl (lv_at hl 2 rfl) ?_
      refine lv_if_lt (tgt := 30) hx hb d_Rea_countCharacters_6 (by decide) (fun c6 => ?_) (fun c6 => ?_)
      · have e6 : q = 8 := by have := (zI_lt (b := 0) (by omega) (by omega) (by omega) (by omega)).mp c6; omega
        refine lv_iload_n hx hb d_Rea_countCharacters_30 rfl (lv_at hl 1 rfl) ?_
        exact rt_i hx hb hrt hlocks (rfl) (()) (by rw [e6]) (hP.sub [] rfl) (hK.sub [] rfl) (hD.sub [] (by decide) rfl) hS d_Rea_countCharacters_31
      · have e6 : q < 8 := by have := mt (zI_lt (b := 0) (by omega) (by omega) (by omega) (by omega)).mpr c6; omega
        refine lv_lload_n hx hb d_Rea_countCharacters_9 rfl (lv_at hl 0 rfl) ?_
        refine lv_iload_n hx hb d_Rea_countCharacters_10 rfl (lv_at hl 2 rfl) ?_
        refine tv_i (nI (8 * (7 - q))) (by rw [← zI_nI]; congr 1; omega) ?_
        refine lv_lushr (v := lN (x / 2 ^ (8 * (7 - q)))) hx hb d_Rea_countCharacters_11 (wb_shr hx64 (by omega)) ?_
        refine lv_ldc2 hx hb hown (hts _ kK_Rea_48) d_Rea_countCharacters_12 ?_
        refine lv_land hx hb d_Rea_countCharacters_15 ?_
        refine tv_l (lN (byt x (7 - q))) (byt_l hx64) ?_
        refine lv_lconst (v := 0) hx hb d_Rea_countCharacters_16 (by decide) ?_
        refine W.lcmp hx hb d_Rea_countCharacters_17 ?_
        refine lv_if_eq (tgt := 24) hx hb d_Rea_countCharacters_18 (by decide) (fun c18 => ?_) (fun c18 => ?_)
        · have e18 : byt x (7 - q) = 0 := (lN_ne0 (by have := byt_lt x (7 - q); omega)).mp ((lg_cmp_eq _ _).mp c18)
          have e19 : cb x (q + 1) = cb x q := by show cb x q + (if byt x (7 - q) = 0 then 0 else 1) = _; rw [if_pos e18]; rfl
          rw [← e19] at hl
          refine lv_iinc (v := zI (56 - 8 * ((q + 1 : Nat) : Int))) (lv' := [(3, .int (zI (56 - 8 * ((q + 1 : Nat) : Int)))), (0, .long (lN x)), (2, .int (nI (cb x (q + 1))))]) hx hb d_Rea_countCharacters_24 hl (k := 2) rfl (by show zI _ + zI (-8) = _; rw [zI_add]; congr 1; omega) (by decide) rfl (fun ls hl => ?_)
          refine lv_goto (tgt := 5) hx hb d_Rea_countCharacters_27 (by decide) ?_
          exact ih (q + 1) (by omega) (by omega) _ _ _ (hP.sub [] rfl) (hD.sub [] (by decide) rfl) hS (lv_sub hl [1, 2, 0] rfl)
        · have e18 : byt x (7 - q) ≠ 0 := fun z => c18 ((lg_cmp_eq _ _).mpr (by rw [z]; rfl))
          have e19 : cb x (q + 1) = cb x q + 1 := by show cb x q + (if byt x (7 - q) = 0 then 0 else 1) = _; rw [if_neg e18]
          refine lv_iinc (v := nI (cb x (q + 1))) (lv' := [(2, .int (nI (cb x (q + 1)))), (0, .long (lN x)), (3, .int (zI (56 - 8 * (q : Int))))]) hx hb d_Rea_countCharacters_21 hl (k := 1) rfl (by rw [e19]; exact nI_1 _) (by decide) rfl (fun ls hl => ?_)
          refine lv_iinc (v := zI (56 - 8 * ((q + 1 : Nat) : Int))) (lv' := [(3, .int (zI (56 - 8 * ((q + 1 : Nat) : Int)))), (2, .int (nI (cb x (q + 1)))), (0, .long (lN x))]) hx hb d_Rea_countCharacters_24 hl (k := 2) rfl (by show zI _ + zI (-8) = _; rw [zI_add]; congr 1; omega) (by decide) rfl (fun ls hl => ?_)
          refine lv_goto (tgt := 5) hx hb d_Rea_countCharacters_27 (by decide) ?_
          exact ih (q + 1) (by omega) (by omega) _ _ _ (hP.sub [] rfl) (hD.sub [] (by decide) rfl) hS (lv_sub hl [2, 1, 0] rfl)
  exact L5 9 0 (by decide) (by decide) _ _ _ (hP.sub [] rfl) (hD.sub [] (by decide) rfl) hS (lv_sub hl [2, 1, 0] rfl)
