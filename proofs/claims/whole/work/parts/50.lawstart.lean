/-- the words that the start gives -/
theorem st_ev {s : State} {bs : Nat} {A : Nat → Prop} (hts : ∀ w ∈ lw_tbl, w.before #[Value.ref bs] s = true) (hgv : (Jvm.Cond.and given_1 narrow_1).before #[Value.ref bs] s = true) (hA : ∀ a : Nat, a < s.heap.size → ¬ A a) : ∃ E : evD, ev1 E A s s.heap := by
  have hs := flat_of_before _ hgv
  obtain ⟨ad, hEn, hev⟩ := va_Enof2 (args := #[Value.ref bs]) (s := s) (E := R_Kin) (d := "LNearestReader$Kind;") (nm := ["WIDE", "NARROW"]) (F := kF) (A := A)
    (fun i hi => by rcases (show i = 0 ∨ i = 1 by have : i < 2 := hi; omega) with rfl | rfl <;> exact hts _ (by decide +kernel)) (hts _ (by decide +kernel))
    (fun i hi => by rcases (show i = 0 ∨ i = 1 by have : i < 2 := hi; omega) with rfl | rfl <;> exact hs _ (by decide +kernel))
    (fun q hq i hi => hs _ ((show ∀ q ∈ kF, ∀ i, i < 2 → Cond.eq (.field (.static R_Kin (["WIDE", "NARROW"].getD i "") "LNearestReader$Kind;") q.1 q.2.1 q.2.2.1) (.int (q.2.2.2.getD i 0)) ∈ flatC (Jvm.Cond.and given_1 narrow_1) from by decide +kernel) q hq i hi))
    (fun i j hi hj hij => by
      have h1 : i < 2 := hi
      have h2 : j < 2 := hj
      rcases (show (i = 0 ∧ j = 1) ∨ (i = 1 ∧ j = 0) by omega) with ⟨rfl, rfl⟩ | ⟨rfl, rfl⟩
      · exact Or.inl (hs _ (by decide +kernel))
      · exact Or.inr (hs _ (by decide +kernel))) hA
  have f1 := va_Efof (args := #[Value.ref bs]) (s := s) (N := 2) (E := R_Kin) (d0 := "LNearestReader$Kind;") (o := R_Kin) (n := "signBit") (d := "J") (nm := ["WIDE", "NARROW"]) (v := fun i => .long (kSign i)) (tm := fun i => .long (kSign i)) (ad := ad) (A := A) (fun i hi => hev i hi) (fun i hi => by rcases (show i = 0 ∨ i = 1 by omega) with rfl | rfl <;> exact hs _ (by decide +kernel)) (fun i hi => rfl) hA
  have f2 := va_Efof (args := #[Value.ref bs]) (s := s) (N := 2) (E := R_Kin) (d0 := "LNearestReader$Kind;") (o := R_Kin) (n := "infinite") (d := "J") (nm := ["WIDE", "NARROW"]) (v := fun i => .long (kInf i)) (tm := fun i => .long (kInf i)) (ad := ad) (A := A) (fun i hi => hev i hi) (fun i hi => by rcases (show i = 0 ∨ i = 1 by omega) with rfl | rfl <;> exact hs _ (by decide +kernel)) (fun i hi => rfl) hA
  have f3 := va_Efof (args := #[Value.ref bs]) (s := s) (N := 2) (E := R_Kin) (d0 := "LNearestReader$Kind;") (o := R_Kin) (n := "none") (d := "J") (nm := ["WIDE", "NARROW"]) (v := fun i => .long (kNon i)) (tm := fun i => .long (kNon i)) (ad := ad) (A := A) (fun i hi => hev i hi) (fun i hi => by rcases (show i = 0 ∨ i = 1 by omega) with rfl | rfl <;> exact hs _ (by decide +kernel)) (fun i hi => rfl) hA
  obtain ⟨adK, adV, hS, hSe⟩ := vk_Sof (args := #[Value.ref bs]) (s := s) (N := 2) (tm := fun i => if i = 0 then Term.string R_Num 31 else Term.string R_Num 40) (len := sLen) (byt := sByt) (A := A)
    (by decide) (fun i hi => by rcases (show i = 0 ∨ i = 1 by omega) with rfl | rfl <;> exact hs _ (by decide +kernel)) (fun i hi => by rcases (show i = 0 ∨ i = 1 by omega) with rfl | rfl <;> exact hs _ (by decide +kernel))
    (fun i hi => by rcases (show i = 0 ∨ i = 1 by omega) with rfl | rfl <;> exact hs _ (by decide +kernel)) (fun i hi => by rcases (show i = 0 ∨ i = 1 by omega) with rfl | rfl <;> exact hs _ (by decide +kernel))
    (fun i hi j hj => hs _ ((show ∀ i, i < 2 → ∀ j, j < sLen.getD i 0 → Cond.eq (.elem (.field (if i = 0 then Term.string R_Num 31 else Term.string R_Num 40) "java/lang/String" "value" "[B") (.int (Int32.ofNat j))) (.int ((sByt.getD i []).getD j 0)) ∈ flatC (Jvm.Cond.and given_1 narrow_1) from by decide +kernel) i hi j hj))
    (fun i j hi hj hij => by
      rcases (show (i = 0 ∧ j = 1) ∨ (i = 1 ∧ j = 0) by omega) with ⟨rfl, rfl⟩ | ⟨rfl, rfl⟩
      · exact Or.inl (hs _ (by decide +kernel))
      · exact Or.inr (hs _ (by decide +kernel))) hA
  have z1 : va_Z R_Str "COMPACT_STRINGS" "Z" (.int 1) A s s.heap := va_Zof (args := #[Value.ref bs]) (hts _ (by decide +kernel)) (hts _ (by decide +kernel)) (va_eqi (hs _ (by decide +kernel))) hA
  have z2 : va_Zq R_Pre "SIOOBE_FORMATTER" "Ljava/util/function/BiFunction;" A s s.heap := va_Zqof (args := #[Value.ref bs]) (hts _ (by decide +kernel)) (hts _ (by decide +kernel)) (hs _ (by decide +kernel)) hA
  refine ⟨(ad, adK, adV), ⟨va_Nw.of rfl (hts (.methodLinkNest R_Num 89 y_Rea_digitOf R_Rea) (by decide +kernel)), va_Nw.of rfl (hts (.methodLinkNest R_Kin 66 y_Rea_bitLengthOf R_Rea) (by decide +kernel)), va_Nw.of rfl (hts (.methodLinkNest R_Big 22 y_Rea_bitLengthOf R_Rea) (by decide +kernel))⟩, hEn, f1, f2, f3, ⟨vk_R.of (hts (.stringRef R_Num 31 "NaN") (by decide +kernel)) (hSe 0 (by decide)), vk_R.of (hts (.stringRef R_Num 40 "Infinity") (by decide +kernel)) (hSe 1 (by decide))⟩, hS, z1, ?_⟩
  rcases z2 with z | ⟨t, z⟩
  · exact ⟨.null, Or.inl rfl, z⟩
  · exact ⟨.ref t, Or.inr ⟨t, rfl⟩, z⟩
theorem st_K {s : State} {bs : Nat} (hts : ∀ w ∈ gws, w.before #[Value.ref bs] s = true) : ∃ D : va_G, va_K D vcl [] s := by
  obtain ⟨c0, i0, k0⟩ := u_known (C := R_Big) (T := F_Big) (N := 2) (n := 2) hts w_Big (hts _ kH_Big)
  obtain ⟨c1, i1, k1⟩ := u_known (C := R_Dec) (T := F_Dec) (N := 5) (n := 5) hts w_Dec (hts _ kH_Dec)
  obtain ⟨c2, i2, k2⟩ := u_known (C := R_Fra) (T := F_Fra) (N := 2) (n := 2) hts w_Fra (hts _ kH_Fra)
  obtain ⟨c3, i3, k3⟩ := u_known (C := R_Num) (T := F_Num) (N := 8) (n := 8) hts w_Num (hts _ kH_Num)
  obtain ⟨c4, i4, k4⟩ := u_known (C := R_Rea) (T := F_Rea) (N := 7) (n := 7) hts w_Rea (hts _ kH_Rea)
  obtain ⟨c5, i5, k5⟩ := u_known (C := R_Mod) (T := F_Mod) (N := 8) (n := 8) hts w_Mod (hts _ kH_Mod)
  refine ⟨(fun k => if k = 0 then c0 else if k = 1 then c1 else if k = 2 then c2 else if k = 3 then c3 else if k = 4 then c4 else c5, fun k => if k = 0 then i0 else if k = 1 then i1 else if k = 2 then i2 else if k = 3 then i3 else if k = 4 then i4 else i5), ⟨?_, fun k q h => by simp at h⟩⟩
  intro k q hq
  match k, hq with
  | 0, hq => cases hq; exact k0
  | 1, hq => cases hq; exact k1
  | 2, hq => cases hq; exact k2
  | 3, hq => cases hq; exact k3
  | 4, hq => cases hq; exact k4
  | 5, hq => cases hq; exact k5
  | k + 6, hq => simp [vcl] at hq
theorem z_tx : (fun _ => 0 : Nat → Int32) = tx (fun _ => 0) := rfl
theorem z_rw : (fun _ => 0 : Nat → Int32) = rw16 (fun _ => 0) := by
  funext j; unfold rw16 dig; rw [Nat.zero_div]; rfl
theorem lc_z : lc 0 = 0 := lc_0.mpr rfl
theorem z_rc : (fun _ => 0 : Nat → Int32) = rc (fun _ => 0) := by
  funext q; unfold rc; rw [lc_z]; rfl
theorem z_ok : okV (fun _ => 0) := fun _ _ => by rw [lc_z]; decide
set_option maxHeartbeats 4000000 in
set_option maxRecDepth 100000 in
/-- from the entry -/
theorem whole_start {p : Program} {e : Env} {s : State} {m : MethodId} {below : List Frame} {meth : Method} {c : Code} (l : Launch) {b L : Nat} {xs : Nat → Int32} (hL : L ≤ 3072) (C0 : lw_At p s m meth c b L xs) : W p l e room_1 s m #[Value.ref b] below meth c s.heap [] 0 0 (lw_Z below #[Value.ref b] s) (entryFrame m ([Value.ref b] : List Value).toArray 4) := by
  obtain ⟨bs, hbs⟩ : ∃ x, x = b := ⟨_, rfl⟩
  rw [← hbs] at C0 ⊢
  obtain ⟨cde, hcde⟩ : ∃ x, x = c := ⟨_, rfl⟩
  rw [← hcde] at C0 ⊢
  obtain ⟨hx, hb, hrt, hml, hown, hts0, hX, hbl, hlocks, hgv⟩ := C0
  have hts : ∀ w ∈ gws, w.before #[Value.ref bs] s = true := fun w h => hts0 w (gws_tbl w h)
  obtain ⟨A, hAd⟩ : ∃ A : Nat → Prop, A = fun q => s.heap.size ≤ q := ⟨_, rfl⟩
  have hA : ∀ q : Nat, s.heap.size ≤ q → A q := fun q h => by rw [hAd]; exact h
  have hAs : ∀ q : Nat, A q → s.heap.size ≤ q := fun q h => by rw [hAd] at h; exact h
  have hbA : ¬ A bs := fun h => absurd (hAs _ h) (by omega)
  obtain ⟨E, hE⟩ := st_ev (A := A) hts0 hgv (fun a h1 h2 => absurd (hAs _ h2) (by omega))
  obtain ⟨D, hK⟩ := st_K hts
  have hev := ev1_ok E
  have hownL := hown
  have hown : s.vm.findClass "NearestReaderLaw" = some m.cls := hown
  have hS : va_S A s.heap s.heap [] := va_S.rf
  have hP : va_P D vcl [] s.heap := fun k q h => by simp at h
  have hD : va_D A [] := ⟨fun i j p q h => by simp at h, fun k q h => by simp at h⟩
  have hl := lv_entry ([.ref bs]) (n := 4) (Nat.le_of_ble_eq_true rfl)
  rw [lg_entry_eq]
  generalize (lg_sl ([.ref bs]) ++ List.replicate (4 - (lg_sl ([.ref bs])).length) Slot.unset).toArray = ls at hl ⊢
  have hl : lv_has ls 4 [(0, .ref bs)] := hl
  refine va_new (ci := 4) (fs := [.null, .null, .null, .null, .int 0, .long 0, .int 0]) (C := R_Rea) (T := F_Rea) (N := 7) hx hb hts w_Rea t_Rea tk_Rea hown (hts _ kL_Law_7) (hts _ kH_Rea) (hts _ kN_Rea) hK hP hD hS hA rfl (fun j hj => by rcases (show j = 0 ∨ j = 1 ∨ j = 2 ∨ j = 3 ∨ j = 4 ∨ j = 5 ∨ j = 6 by omega) with rfl | rfl | rfl | rfl | rfl | rfl | rfl <;> rfl) (Nat.le_of_ble_eq_true rfl) (Nat.le_of_ble_eq_true rfl) d_Law_law_0 (fun q1 H hP hD hS => ?_)
  have hP : va_P D vcl [(q1, .inr (4, [.null, .null, .null, .null, .int 0, .long 0, .int 0]))] H := hP
  have hD : va_D A [(q1, .inr (4, [.null, .null, .null, .null, .int 0, .long 0, .int 0]))] := hD
  refine lv_dup hx hb d_Law_law_3 rfl ?_
  refine ca_v [] (va_runI (As := []) (rest := [.ref q1]) ⟨hx, hb, hml, hown, hts⟩ (c_Rea_init l D E q1 H.size) (xI 0 hts kC_Rea_init kM_Law_9 kI_Rea_init kN_Rea rfl rfl rfl (by decide +kernel) ⟨Nat.le_of_ble_eq_true rfl, Nat.le_of_ble_eq_true rfl⟩) ⟨ct_blind hev, ct_pre hev hP hK hD hS hA hE [0] rfl (by decide) [] rfl⟩ rfl rfl hl.1 rfl (lv_room (Nat.le_of_ble_eq_true rfl)) d_Law_law_4 ⟨Nat.le_of_ble_eq_true rfl, Nat.le_of_ble_eq_true rfl⟩) hP hD hS hA [0] [] rfl rfl (by decide) (by decide) (fun u H locs hw hP hD hS hK1 => ?_)
  obtain ⟨⟨x, nm, h, q⟩, ⟨t, ta, b, ba⟩, ⟨cC, cA, cB⟩⟩ := u
  have hP : va_P D vcl [(q1, .inr (4, [.ref x, .ref nm, .ref h, .ref q, .int 0, .long 0, .int 0])), (x, .inl (cC, 2400, .inl (fun _ => 0))), (nm, .inr (3, [.ref x, .int 0, .int 0, .int 0, .int 0, .int 0, .int 0, .int 0])), (h, .inr (1, [.ref q, .int 0, .int 0, .int 0, .int 0])), (q, .inr (2, [.ref t, .ref b])), (t, .inr (0, [.ref ta, .int 0])), (ta, .inl (cA, 96, .inl (fun _ => 0))), (b, .inr (0, [.ref ba, .int 0])), (ba, .inl (cB, 96, .inl (fun _ => 0)))] H := hP
  have hD : va_D A [(q1, .inr (4, [.ref x, .ref nm, .ref h, .ref q, .int 0, .long 0, .int 0])), (x, .inl (cC, 2400, .inl (fun _ => 0))), (nm, .inr (3, [.ref x, .int 0, .int 0, .int 0, .int 0, .int 0, .int 0, .int 0])), (h, .inr (1, [.ref q, .int 0, .int 0, .int 0, .int 0])), (q, .inr (2, [.ref t, .ref b])), (t, .inr (0, [.ref ta, .int 0])), (ta, .inl (cA, 96, .inl (fun _ => 0))), (b, .inr (0, [.ref ba, .int 0])), (ba, .inl (cB, 96, .inl (fun _ => 0)))] := hD
  have hK := hK.app hK1
  have hK : va_K D vcl [(cC, .char), (cA, .int), (cB, .int)] s := hK
  refine lv_astore_n (lv' := [(1, .ref q1), (0, .ref bs)]) hx hb d_Law_law_7 rfl hl (by decide) rfl (fun ls hl => ?_)
  refine va_new (ci := 5) (fs := [.null, .int 0, .long 0, .int 0, .null, .null, .int 0, .int 0]) (C := R_Mod) (T := F_Mod) (N := 8) hx hb hts w_Mod t_Mod tk_Mod hown (hts _ kL_Law_10) (hts _ kH_Mod) (hts _ kN_Mod) hK hP hD hS hA rfl (fun j hj => by rcases (show j = 0 ∨ j = 1 ∨ j = 2 ∨ j = 3 ∨ j = 4 ∨ j = 5 ∨ j = 6 ∨ j = 7 by omega) with rfl | rfl | rfl | rfl | rfl | rfl | rfl | rfl <;> rfl) (Nat.le_of_ble_eq_true rfl) (Nat.le_of_ble_eq_true rfl) d_Law_law_8 (fun q2 H hP hD hS => ?_)
  have hP : va_P D vcl [(q1, .inr (4, [.ref x, .ref nm, .ref h, .ref q, .int 0, .long 0, .int 0])), (x, .inl (cC, 2400, .inl (fun _ => 0))), (nm, .inr (3, [.ref x, .int 0, .int 0, .int 0, .int 0, .int 0, .int 0, .int 0])), (h, .inr (1, [.ref q, .int 0, .int 0, .int 0, .int 0])), (q, .inr (2, [.ref t, .ref b])), (t, .inr (0, [.ref ta, .int 0])), (ta, .inl (cA, 96, .inl (fun _ => 0))), (b, .inr (0, [.ref ba, .int 0])), (ba, .inl (cB, 96, .inl (fun _ => 0))), (q2, .inr (5, [.null, .int 0, .long 0, .int 0, .null, .null, .int 0, .int 0]))] H := hP
  have hD : va_D A [(q1, .inr (4, [.ref x, .ref nm, .ref h, .ref q, .int 0, .long 0, .int 0])), (x, .inl (cC, 2400, .inl (fun _ => 0))), (nm, .inr (3, [.ref x, .int 0, .int 0, .int 0, .int 0, .int 0, .int 0, .int 0])), (h, .inr (1, [.ref q, .int 0, .int 0, .int 0, .int 0])), (q, .inr (2, [.ref t, .ref b])), (t, .inr (0, [.ref ta, .int 0])), (ta, .inl (cA, 96, .inl (fun _ => 0))), (b, .inr (0, [.ref ba, .int 0])), (ba, .inl (cB, 96, .inl (fun _ => 0))), (q2, .inr (5, [.null, .int 0, .long 0, .int 0, .null, .null, .int 0, .int 0]))] := hD
  refine lv_dup hx hb d_Law_law_11 rfl ?_
  refine ca_v [(q1, .inr (4, [.ref x, .ref nm, .ref h, .ref q, .int 0, .long 0, .int 0])), (x, .inl (cC, 2400, .inl (fun _ => 0))), (nm, .inr (3, [.ref x, .int 0, .int 0, .int 0, .int 0, .int 0, .int 0, .int 0])), (h, .inr (1, [.ref q, .int 0, .int 0, .int 0, .int 0])), (q, .inr (2, [.ref t, .ref b])), (t, .inr (0, [.ref ta, .int 0])), (ta, .inl (cA, 96, .inl (fun _ => 0))), (b, .inr (0, [.ref ba, .int 0])), (ba, .inl (cB, 96, .inl (fun _ => 0)))] (va_runI (As := []) (rest := [.ref q2]) ⟨hx, hb, hml, hown, hts⟩ (c_Mod_init l D E q2 H.size) (xI 0 hts kC_Mod_init kM_Law_12 kI_Mod_init kN_Mod rfl rfl rfl (by decide +kernel) ⟨Nat.le_of_ble_eq_true rfl, Nat.le_of_ble_eq_true rfl⟩) ⟨ct_blind hev, ct_pre hev hP hK hD hS hA hE [9] rfl (by decide) [] rfl⟩ rfl rfl hl.1 rfl (lv_room (Nat.le_of_ble_eq_true rfl)) d_Law_law_12 ⟨Nat.le_of_ble_eq_true rfl, Nat.le_of_ble_eq_true rfl⟩) hP hD hS hA [9] [0, 1, 2, 3, 4, 5, 6, 7, 8] rfl rfl (by decide) (by decide) (fun u H locs hw hP hD hS hK1 => ?_)
  obtain ⟨⟨xx, mm, nn⟩, ⟨cX, cM, cN⟩⟩ := u
  have hP : va_P D vcl [(q1, .inr (4, [.ref x, .ref nm, .ref h, .ref q, .int 0, .long 0, .int 0])), (x, .inl (cC, 2400, .inl (fun _ => 0))), (nm, .inr (3, [.ref x, .int 0, .int 0, .int 0, .int 0, .int 0, .int 0, .int 0])), (h, .inr (1, [.ref q, .int 0, .int 0, .int 0, .int 0])), (q, .inr (2, [.ref t, .ref b])), (t, .inr (0, [.ref ta, .int 0])), (ta, .inl (cA, 96, .inl (fun _ => 0))), (b, .inr (0, [.ref ba, .int 0])), (ba, .inl (cB, 96, .inl (fun _ => 0))), (q2, .inr (5, [.ref xx, .int 0, .long 0, .int 0, .ref mm, .ref nn, .int 0, .int 0])), (xx, .inl (cX, 2400, .inl (fun _ => 0))), (mm, .inl (cM, 3000, .inl (fun _ => 0))), (nn, .inl (cN, 3, .inl (fun _ => 0)))] H := hP
  have hD : va_D A [(q1, .inr (4, [.ref x, .ref nm, .ref h, .ref q, .int 0, .long 0, .int 0])), (x, .inl (cC, 2400, .inl (fun _ => 0))), (nm, .inr (3, [.ref x, .int 0, .int 0, .int 0, .int 0, .int 0, .int 0, .int 0])), (h, .inr (1, [.ref q, .int 0, .int 0, .int 0, .int 0])), (q, .inr (2, [.ref t, .ref b])), (t, .inr (0, [.ref ta, .int 0])), (ta, .inl (cA, 96, .inl (fun _ => 0))), (b, .inr (0, [.ref ba, .int 0])), (ba, .inl (cB, 96, .inl (fun _ => 0))), (q2, .inr (5, [.ref xx, .int 0, .long 0, .int 0, .ref mm, .ref nn, .int 0, .int 0])), (xx, .inl (cX, 2400, .inl (fun _ => 0))), (mm, .inl (cM, 3000, .inl (fun _ => 0))), (nn, .inl (cN, 3, .inl (fun _ => 0)))] := hD
  have hK := hK.app hK1
  have hK : va_K D vcl [(cC, .char), (cA, .int), (cB, .int), (cX, .int), (cM, .int), (cN, .int)] s := hK
  refine lv_astore_n (lv' := [(2, .ref q2), (1, .ref q1), (0, .ref bs)]) hx hb d_Law_law_15 rfl hl (by decide) rfl (fun ls hl => ?_)
  refine lv_iconst (v := 0) hx hb d_Law_law_16 (by decide) ?_
  refine lv_istore_n (lv' := [(3, .int 0), (2, .ref q2), (1, .ref q1), (0, .ref bs)]) hx hb d_Law_law_17 rfl hl (by decide) rfl (fun ls hl => ?_)
  have hP : va_P D vcl [(q1, .inr (4, [.ref x, .ref nm, .ref h, .ref q, .int 0, .long 0, .int 0])), (x, .inl (cC, 2400, .inl (fun _ => 0))), (nm, .inr (3, [.ref x, .int 0, .int 0, .int 0, .int 0, .int 0, .int 0, .int 0])), (h, .inr (1, [.ref q, .int 0, .int 0, .int 0, .int 0])), (q, .inr (2, [.ref t, .ref b])), (t, .inr (0, [.ref ta, .int 0])), (ta, .inl (cA, 96, .inl (fun _ => 0))), (b, .inr (0, [.ref ba, .int 0])), (ba, .inl (cB, 96, .inl (fun _ => 0))), (q2, .inr (5, [.ref xx, .int 0, .long 0, .int 0, .ref mm, .ref nn, .int 0, .int 0])), (mm, .inl (cM, 3000, .inl (fun _ => 0))), (nn, .inl (cN, 3, .inl (fun _ => 0))), (xx, .inl (cX, 2400, .inl (fun _ => 0)))] H := hP.sub [0, 1, 2, 3, 4, 5, 6, 7, 8, 9, 11, 12, 10] rfl
  have hD : va_D A [(q1, .inr (4, [.ref x, .ref nm, .ref h, .ref q, .int 0, .long 0, .int 0])), (x, .inl (cC, 2400, .inl (fun _ => 0))), (nm, .inr (3, [.ref x, .int 0, .int 0, .int 0, .int 0, .int 0, .int 0, .int 0])), (h, .inr (1, [.ref q, .int 0, .int 0, .int 0, .int 0])), (q, .inr (2, [.ref t, .ref b])), (t, .inr (0, [.ref ta, .int 0])), (ta, .inl (cA, 96, .inl (fun _ => 0))), (b, .inr (0, [.ref ba, .int 0])), (ba, .inl (cB, 96, .inl (fun _ => 0))), (q2, .inr (5, [.ref xx, .int 0, .long 0, .int 0, .ref mm, .ref nn, .int 0, .int 0])), (mm, .inl (cM, 3000, .inl (fun _ => 0))), (nn, .inl (cN, 3, .inl (fun _ => 0))), (xx, .inl (cX, 2400, .inl (fun _ => 0)))] := hD.sub [0, 1, 2, 3, 4, 5, 6, 7, 8, 9, 11, 12, 10] (by decide) rfl
  have hcs : ([(q1, .inr (4, [.ref x, .ref nm, .ref h, .ref q, .int 0, .long 0, .int 0])), (x, .inl (cC, 2400, .inl (fun _ => 0))), (nm, .inr (3, [.ref x, .int 0, .int 0, .int 0, .int 0, .int 0, .int 0, .int 0])), (h, .inr (1, [.ref q, .int 0, .int 0, .int 0, .int 0])), (q, .inr (2, [.ref t, .ref b])), (t, .inr (0, [.ref ta, .int 0])), (ta, .inl (cA, 96, .inl (fun _ => 0))), (b, .inr (0, [.ref ba, .int 0])), (ba, .inl (cB, 96, .inl (fun _ => 0))), (q2, .inr (5, [.ref xx, .int 0, .long 0, .int 0, .ref mm, .ref nn, .int 0, .int 0])), (mm, .inl (cM, 3000, .inl (fun _ => 0))), (nn, .inl (cN, 3, .inl (fun _ => 0))), (xx, .inl (cX, 2400, .inl (fun _ => 0)))] : va_W) = [(q1, .inr (4, [.ref x, .ref nm, .ref h, .ref q, .int (nI 0), .long 0, .int 0])), (x, .inl (cC, 2400, .inl (tx (fun _ => 0)))), (nm, .inr (3, [.ref x, .int 0, .int 0, .int 0, .int 0, .int 0, .int 0, .int 0])), (h, .inr (1, [.ref q, .int 0, .int 0, .int 0, .int 0])), (q, .inr (2, [.ref t, .ref b])), (t, .inr (0, [.ref ta, .int 0])), (ta, .inl (cA, 96, .inl (fun _ => 0))), (b, .inr (0, [.ref ba, .int 0])), (ba, .inl (cB, 96, .inl (fun _ => 0))), (q2, .inr (5, [.ref xx, .int (nI 0), .long 0, .int 0, .ref mm, .ref nn, .int 0, .int 0])), (mm, .inl (cM, 3000, .inl (rw16 (fun _ => 0)))), (nn, .inl (cN, 3, .inl (rc (fun _ => 0)))), (xx, .inl (cX, 2400, .inl (tx (fun _ => 0))))] := by rw [← z_rw, ← z_rc]; rfl
  rw [hcs] at hP hD
  have hK : va_K D vcl [(cC, .char), (cA, .int), (cB, .int), (cM, .int), (cN, .int), (cX, .int)] s := hK.sub [0, 1, 2, 4, 5, 3] rfl
  exact law_loop D E A bs L xs q1 x nm h q t ta b ba q2 xx mm nn cC cA cB cM cN cX ⟨hx, hb, hrt, hml, hownL, hts, hX, hbl, hlocks, hA, hAs, hbA, hE, hK⟩ hL (L + 7) 0 0 0 0 (fun _ => 0) 0 0 0 0 0 0 0 0 0 0 0 0 0 (fun _ => 0) (fun _ => 0) (fun _ => 0) 0 0 (by omega) (by omega) (by decide) (fun _ => by decide) z_ok _ _ _ hP hD hS (lv_sub hl [3, 2, 1, 0] rfl)
