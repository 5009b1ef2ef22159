set_option maxHeartbeats 4000000 in
set_option maxRecDepth 100000 in
theorem law_loop {p : Program} {l : Launch} {ee : Env} {s : State} {m : MethodId} {below : List Frame} {meth : Method} {cde : Code} (D : va_G) (E : evD) (A : Nat → Prop) (bs L : Nat) (xs : Nat → Int32) (r x nm h q t ta b ba md xx mm nn : Nat) (cC cA cB cM cN cX : ClassId) (C0 : lwC p s m meth cde D E A bs L xs cC cA cB cM cN cX) (hL : L ≤ 3072) : ∀ (kk k : Nat) (n : Nat) (R : Int64) (fd : Int32) (T : Nat → Nat) (v1 : Int32) (v2 : Int32) (v3 : Int32) (v4 : Int32) (v5 : Int32) (v6 : Int32) (v7 : Int32) (g0 : Int32) (gs0 : Int32) (kp0 : Int32) (pl0 : Int32) (nv : Int32) (mv : Int32) (f : Nat → Int32) (g : Nat → Int32) (V : Nat → Nat) (at0 : Int32) (en0 : Int32), L + 6 - k < kk → k ≤ L + 6 → (n ≤ 2400) → (∀ j, T j < 256) → (okV V) → ∀ (H : Heap) (locs : List Loc) (ls : Array Slot), va_P D vcl [(r, .inr (4, [.ref x, .ref nm, .ref h, .ref q, .int (nI n), .long R, .int fd])), (x, .inl (cC, 2400, .inl (tx T))), (nm, .inr (3, [.ref x, .int v1, .int v2, .int v3, .int v4, .int v5, .int v6, .int v7])), (h, .inr (1, [.ref q, .int g0, .int gs0, .int kp0, .int pl0])), (q, .inr (2, [.ref t, .ref b])), (t, .inr (0, [.ref ta, .int nv])), (ta, .inl (cA, 96, .inl f)), (b, .inr (0, [.ref ba, .int mv])), (ba, .inl (cB, 96, .inl g)), (md, .inr (5, [.ref xx, .int (nI n), .long R, .int fd, .ref mm, .ref nn, .int at0, .int en0])), (mm, .inl (cM, 3000, .inl (rw16 V))), (nn, .inl (cN, 3, .inl (rc V))), (xx, .inl (cX, 2400, .inl (tx T)))] H → va_D A [(r, .inr (4, [.ref x, .ref nm, .ref h, .ref q, .int (nI n), .long R, .int fd])), (x, .inl (cC, 2400, .inl (tx T))), (nm, .inr (3, [.ref x, .int v1, .int v2, .int v3, .int v4, .int v5, .int v6, .int v7])), (h, .inr (1, [.ref q, .int g0, .int gs0, .int kp0, .int pl0])), (q, .inr (2, [.ref t, .ref b])), (t, .inr (0, [.ref ta, .int nv])), (ta, .inl (cA, 96, .inl f)), (b, .inr (0, [.ref ba, .int mv])), (ba, .inl (cB, 96, .inl g)), (md, .inr (5, [.ref xx, .int (nI n), .long R, .int fd, .ref mm, .ref nn, .int at0, .int en0])), (mm, .inl (cM, 3000, .inl (rw16 V))), (nn, .inl (cN, 3, .inl (rc V))), (xx, .inl (cX, 2400, .inl (tx T)))] → va_S A s.heap H locs → lv_has ls 4 [(0, .ref bs), (1, .ref r), (2, .ref md), (3, .int (nI k))] → W p l ee room_1 s m #[Value.ref bs] below meth cde H locs 13 8029 (lw_Z below #[Value.ref bs] s) (F0 m 18 ls []) := by
  have C1 := C0
  obtain ⟨hx, hb, hrt, hml, hown, hts, hX, hbl, hlocks, hA, hAs, hbA, hE, hK⟩ := C0
  have hev := ev1_ok E
  have hown : s.vm.findClass "NearestReaderLaw" = some m.cls := hown
  intro kk
  induction kk with
  | zero => intro k n R fd T v1 v2 v3 v4 v5 v6 v7 g0 gs0 kp0 pl0 nv mv f g V at0 en0 hmz; exact absurd hmz (Nat.not_lt_zero _)
  | succ kk ih =>
    intro k n R fd T v1 v2 v3 v4 v5 v6 v7 g0 gs0 kp0 pl0 nv mv f g V at0 en0 hmz hk0 hn hT hV H locs ls hP hD hS hl
    refine lv_iload_n hx hb d_Law_law_18 rfl (lv_at hl 3 rfl) ?_
    refine lv_aload_n hx hb d_Law_law_19 rfl (lv_at hl 0 rfl) ?_
    refine va_slen hx hb hX hbl hbA hS d_Law_law_20 ?_
    refine lv_bipush (v := 6) hx hb d_Law_law_21 (by decide) ?_
    refine lv_isub hx hb d_Law_law_23 ?_
    refine tv_i (zI ((L : Int) - 6)) (by show nI L - zI 6 = _; rw [← zI_nI, zI_sub]) ?_
    refine lv_icmp_gt (tgt := 587) hx hb d_Law_law_24 (by decide) (fun c24 => ?_) (fun c24 => ?_)
    · have e24 : ¬ k + 6 ≤ L := by have h9 := (zI_lt (a := (L : Int) - 6) (b := (k : Int)) (by omega) (by omega) (by omega) (by omega)).mp (by rw [zI_nI]; exact c24); omega
      refine lv_iconst (v := 1) hx hb d_Law_law_587 (by decide) ?_
      refine va_forget (fun q hq => hAs q.base (hS.2.2 q hq)) ?_
      exact lw_ret hx hb hrt hlocks d_Law_law_588
    · have e24 : k + 6 ≤ L := by have h9 := mt (zI_lt (a := (L : Int) - 6) (b := (k : Int)) (by omega) (by omega) (by omega) (by omega)).mpr (by rw [zI_nI]; exact c24); omega
      refine lv_aload_n hx hb d_Law_law_27 rfl (lv_at hl 0 rfl) ?_
      refine lv_iload_n hx hb d_Law_law_28 rfl (lv_at hl 3 rfl) ?_
      refine va_sld hx hb hX hbl hbA hS (i := nI k) (vp_in_nI (show k < L by omega) (by omega)) d_Law_law_29 ?_
      refine tv_i (xs k) (by rw [nI_clamp (by omega)]) ?_
      refine lv_bipush (v := 15) hx hb d_Law_law_30 (by decide) ?_
      refine lv_iand hx hb d_Law_law_32 ?_
      obtain ⟨w0, hw0, hwv⟩ := and15 (xs k)
      refine tv_i (nI w0) (hwv) ?_
      have KK : ∀ (n : Nat) (R : Int64) (fd : Int32) (T : Nat → Nat) (v1 : Int32) (v2 : Int32) (v3 : Int32) (v4 : Int32) (v5 : Int32) (v6 : Int32) (v7 : Int32) (g0 : Int32) (gs0 : Int32) (kp0 : Int32) (pl0 : Int32) (nv : Int32) (mv : Int32) (f : Nat → Int32) (g : Nat → Int32) (V : Nat → Nat) (at0 : Int32) (en0 : Int32), True → (n ≤ 2400) → (∀ j, T j < 256) → (okV V) → ∀ (H : Heap) (locs : List Loc) (ls : Array Slot), va_P D vcl [(r, .inr (4, [.ref x, .ref nm, .ref h, .ref q, .int (nI n), .long R, .int fd])), (x, .inl (cC, 2400, .inl (tx T))), (nm, .inr (3, [.ref x, .int v1, .int v2, .int v3, .int v4, .int v5, .int v6, .int v7])), (h, .inr (1, [.ref q, .int g0, .int gs0, .int kp0, .int pl0])), (q, .inr (2, [.ref t, .ref b])), (t, .inr (0, [.ref ta, .int nv])), (ta, .inl (cA, 96, .inl f)), (b, .inr (0, [.ref ba, .int mv])), (ba, .inl (cB, 96, .inl g)), (md, .inr (5, [.ref xx, .int (nI n), .long R, .int fd, .ref mm, .ref nn, .int at0, .int en0])), (mm, .inl (cM, 3000, .inl (rw16 V))), (nn, .inl (cN, 3, .inl (rc V))), (xx, .inl (cX, 2400, .inl (tx T)))] H → va_D A [(r, .inr (4, [.ref x, .ref nm, .ref h, .ref q, .int (nI n), .long R, .int fd])), (x, .inl (cC, 2400, .inl (tx T))), (nm, .inr (3, [.ref x, .int v1, .int v2, .int v3, .int v4, .int v5, .int v6, .int v7])), (h, .inr (1, [.ref q, .int g0, .int gs0, .int kp0, .int pl0])), (q, .inr (2, [.ref t, .ref b])), (t, .inr (0, [.ref ta, .int nv])), (ta, .inl (cA, 96, .inl f)), (b, .inr (0, [.ref ba, .int mv])), (ba, .inl (cB, 96, .inl g)), (md, .inr (5, [.ref xx, .int (nI n), .long R, .int fd, .ref mm, .ref nn, .int at0, .int en0])), (mm, .inl (cM, 3000, .inl (rw16 V))), (nn, .inl (cN, 3, .inl (rc V))), (xx, .inl (cX, 2400, .inl (tx T)))] → va_S A s.heap H locs → lv_has ls 4 [(0, .ref bs), (1, .ref r), (2, .ref md), (3, .int (nI k))] → W p l ee room_1 s m #[Value.ref bs] below meth cde H locs 13 8029 (lw_Z below #[Value.ref bs] s) (F0 m 581 ls []) := by
        intro n R fd T v1 v2 v3 v4 v5 v6 v7 g0 gs0 kp0 pl0 nv mv f g V at0 en0 _ hn hT hV H locs ls hP hD hS hl
        refine lv_iinc (v := nI (k + 6)) (lv' := [(3, .int (nI (k + 6))), (0, .ref bs), (1, .ref r), (2, .ref md)]) hx hb d_Law_law_581 hl (k := 3) rfl (nI_add k 6) (by decide) rfl (fun ls hl => ?_)
        refine lv_goto (tgt := 18) hx hb d_Law_law_584 (by decide) ?_
        exact ih (k + 6) n R fd T v1 v2 v3 v4 v5 v6 v7 g0 gs0 kp0 pl0 nv mv f g V at0 en0 (by omega) (by omega) hn hT hV _ _ _ hP hD hS (lv_sub hl [1, 2, 3, 0] rfl)
      rcases (show w0 = 0 ∨ w0 = 1 ∨ w0 = 2 ∨ w0 = 3 ∨ w0 = 4 ∨ w0 = 5 ∨ w0 = 6 ∨ w0 = 7 ∨ w0 = 8 ∨ w0 = 9 ∨ w0 = 10 ∨ 10 < w0 by omega) with hz | hz | hz | hz | hz | hz | hz | hz | hz | hz | hz | hz
      · subst hz
        refine lv_tableIn (tgt := 92) hx hb d_Law_law_33 (by decide) (by decide) rfl (by decide) ?_
        exact law_c0 D E A bs L xs r x nm h q t ta b ba md xx mm nn cC cA cB cM cN cX C1 hL k e24 n R fd T v1 v2 v3 v4 v5 v6 v7 g0 gs0 kp0 pl0 nv mv f g V at0 en0 hn hT hV H locs ls hP hD hS hl KK
      · subst hz
        refine lv_tableIn (tgt := 145) hx hb d_Law_law_33 (by decide) (by decide) rfl (by decide) ?_
        exact law_c1 D E A bs L xs r x nm h q t ta b ba md xx mm nn cC cA cB cM cN cX C1 hL k e24 n R fd T v1 v2 v3 v4 v5 v6 v7 g0 gs0 kp0 pl0 nv mv f g V at0 en0 hn hT hV H locs ls hP hD hS hl KK
      · subst hz
        refine lv_tableIn (tgt := 168) hx hb d_Law_law_33 (by decide) (by decide) rfl (by decide) ?_
        exact law_c2 D E A bs L xs r x nm h q t ta b ba md xx mm nn cC cA cB cM cN cX C1 hL k e24 n R fd T v1 v2 v3 v4 v5 v6 v7 g0 gs0 kp0 pl0 nv mv f g V at0 en0 hn hT hV H locs ls hP hD hS hl KK
      · subst hz
        refine lv_tableIn (tgt := 181) hx hb d_Law_law_33 (by decide) (by decide) rfl (by decide) ?_
        exact law_c3 D E A bs L xs r x nm h q t ta b ba md xx mm nn cC cA cB cM cN cX C1 hL k e24 n R fd T v1 v2 v3 v4 v5 v6 v7 g0 gs0 kp0 pl0 nv mv f g V at0 en0 hn hT hV H locs ls hP hD hS hl KK
      · subst hz
        refine lv_tableIn (tgt := 194) hx hb d_Law_law_33 (by decide) (by decide) rfl (by decide) ?_
        exact law_c4 D E A bs L xs r x nm h q t ta b ba md xx mm nn cC cA cB cM cN cX C1 hL k e24 n R fd T v1 v2 v3 v4 v5 v6 v7 g0 gs0 kp0 pl0 nv mv f g V at0 en0 hn hT hV H locs ls hP hD hS hl KK
      · subst hz
        refine lv_tableIn (tgt := 207) hx hb d_Law_law_33 (by decide) (by decide) rfl (by decide) ?_
        exact law_c5 D E A bs L xs r x nm h q t ta b ba md xx mm nn cC cA cB cM cN cX C1 hL k e24 n R fd T v1 v2 v3 v4 v5 v6 v7 g0 gs0 kp0 pl0 nv mv f g V at0 en0 hn hT hV H locs ls hP hD hS hl KK
      · subst hz
        refine lv_tableIn (tgt := 221) hx hb d_Law_law_33 (by decide) (by decide) rfl (by decide) ?_
        exact law_c6 D E A bs L xs r x nm h q t ta b ba md xx mm nn cC cA cB cM cN cX C1 hL k e24 n R fd T v1 v2 v3 v4 v5 v6 v7 g0 gs0 kp0 pl0 nv mv f g V at0 en0 hn hT hV H locs ls hP hD hS hl KK
      · subst hz
        refine lv_tableIn (tgt := 275) hx hb d_Law_law_33 (by decide) (by decide) rfl (by decide) ?_
        exact law_c7 D E A bs L xs r x nm h q t ta b ba md xx mm nn cC cA cB cM cN cX C1 hL k e24 n R fd T v1 v2 v3 v4 v5 v6 v7 g0 gs0 kp0 pl0 nv mv f g V at0 en0 hn hT hV H locs ls hP hD hS hl KK
      · subst hz
        refine lv_tableIn (tgt := 329) hx hb d_Law_law_33 (by decide) (by decide) rfl (by decide) ?_
        exact law_c8 D E A bs L xs r x nm h q t ta b ba md xx mm nn cC cA cB cM cN cX C1 hL k e24 n R fd T v1 v2 v3 v4 v5 v6 v7 g0 gs0 kp0 pl0 nv mv f g V at0 en0 hn hT hV H locs ls hP hD hS hl KK
      · subst hz
        refine lv_tableIn (tgt := 449) hx hb d_Law_law_33 (by decide) (by decide) rfl (by decide) ?_
        exact law_c9 D E A bs L xs r x nm h q t ta b ba md xx mm nn cC cA cB cM cN cX C1 hL k e24 n R fd T v1 v2 v3 v4 v5 v6 v7 g0 gs0 kp0 pl0 nv mv f g V at0 en0 hn hT hV H locs ls hP hD hS hl KK
      · subst hz
        refine lv_tableIn (tgt := 568) hx hb d_Law_law_33 (by decide) (by decide) rfl (by decide) ?_
        exact law_c10 D E A bs L xs r x nm h q t ta b ba md xx mm nn cC cA cB cM cN cX C1 hL k e24 n R fd T v1 v2 v3 v4 v5 v6 v7 g0 gs0 kp0 pl0 nv mv f g V at0 en0 hn hT hV H locs ls hP hD hS hl KK
      · refine lv_tableOut (tgt := 581) hx hb d_Law_law_33 (Or.inr (by rw [nI_toInt (by omega)]; omega)) (by decide) ?_
        exact KK n R fd T v1 v2 v3 v4 v5 v6 v7 g0 gs0 kp0 pl0 nv mv f g V at0 en0 trivial hn hT hV H locs ls hP hD hS hl
