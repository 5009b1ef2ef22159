/-! THE REFERENCE'S TEXT: longs with a sign, digits, words, what the digits say -/
def lZ (z : Int) : Int64 := Int64.ofInt z
theorem lZ_lN (n : Nat) : lZ (n : Int) = lN n := Int64.ofInt_eq_ofNat
theorem lZ_add (a b : Int) : lZ a + lZ b = lZ (a + b) := (Int64.ofInt_add a b).symm
theorem lZ_sub (a b : Int) : lZ a - lZ b = lZ (a - b) := (Int64.ofInt_sub a b).symm
theorem lZ_mul (a b : Int) : lZ a * lZ b = lZ (a * b) := (Int64.ofInt_mul a b).symm
theorem lZ_neg (a : Int) : -lZ a = lZ (-a) := (Int64.ofInt_neg a).symm
theorem lZ_ti {a : Int} (h1 : -9223372036854775808 ≤ a) (h2 : a < 9223372036854775808) : (lZ a).toInt = a := Int64.toInt_ofInt_of_le (by omega) (by omega)
theorem lZ_lt {a b : Int} (h1 : -9223372036854775808 ≤ a) (h2 : a < 9223372036854775808) (h3 : -9223372036854775808 ≤ b) (h4 : b < 9223372036854775808) : lZ a < lZ b ↔ a < b := by
  rw [Int64.lt_iff_toInt_lt, lZ_ti h1 h2, lZ_ti h3 h4]
theorem lZ_le {a b : Int} (h1 : -9223372036854775808 ≤ a) (h2 : a < 9223372036854775808) (h3 : -9223372036854775808 ≤ b) (h4 : b < 9223372036854775808) : lZ a ≤ lZ b ↔ a ≤ b := by
  rw [Int64.le_iff_toInt_le, lZ_ti h1 h2, lZ_ti h3 h4]
theorem lZ_nI {k : Nat} (h : k < 2147483648) : (nI k).toInt64 = lZ k := by rw [lZ_lN]; exact nI_l h
theorem lZ_i (z : Int) : (lZ z).toInt32 = zI z := by unfold lZ zI; simp
/-- a digit, 99 where none is -/
def dgm (c : Nat) : Nat := if dg c < 16 then dg c else 99
theorem dgm_lt {c β : Nat} (h : β ≤ 16) : dgm c < β ↔ dg c < β := by unfold dgm; split <;> omega
theorem dgm_dg {c β : Nat} (hb : β ≤ 16) (h : dg c < β) : dgm c = dg c := by unfold dgm; rw [if_pos (by omega)]
theorem dg46 {c β : Nat} (hb : β ≤ 16) (h : dg c < β) : c ≠ 46 := by
  intro z
  rw [z] at h
  have h9 : dg 46 = 16 := by decide
  omega
theorem dg0 : dg 0 = 16 := by decide
theorem wd_0 {T : Nat → Nat} {e a : Nat} : wdB T e a 0 = decide (e - a = 3 ∧ lk T e a = 78 ∧ lk T e (a + 1) = 97 ∧ lk T e (a + 2) = 78) := by
  unfold wdB
  apply decide_eq_decide.mpr
  constructor
  · intro h
    have h1 : e - a = 3 := h.1
    refine ⟨h1, ?_, ?_, ?_⟩
    · rw [lk_in (by omega)]; exact h.2 0 (by decide)
    · rw [lk_in (by omega)]; exact h.2 1 (by decide)
    · rw [lk_in (by omega)]; exact h.2 2 (by decide)
  · intro h
    refine ⟨h.1, fun k hk => ?_⟩
    have hk : k < 3 := hk
    obtain ⟨h1, h2, h3, h4⟩ := h
    rw [lk_in (by omega)] at h2 h3 h4
    rcases (show k = 0 ∨ k = 1 ∨ k = 2 by omega) with z | z | z <;> subst z
    · exact h2
    · exact h3
    · exact h4
theorem wd_1 {T : Nat → Nat} {e a : Nat} : wdB T e a 1 = decide ((e - a = 8 ∧ lk T e a = 73 ∧ lk T e (a + 1) = 110 ∧ lk T e (a + 2) = 102) ∧ lk T e (a + 3) = 105 ∧ lk T e (a + 4) = 110 ∧ lk T e (a + 5) = 105 ∧ lk T e (a + 6) = 116 ∧ lk T e (a + 7) = 121) := by
  unfold wdB
  apply decide_eq_decide.mpr
  constructor
  · intro h
    have h1 : e - a = 8 := h.1
    refine ⟨⟨h1, ?_, ?_, ?_⟩, ?_, ?_, ?_, ?_, ?_⟩
    · rw [lk_in (by omega)]; exact h.2 0 (by decide)
    · rw [lk_in (by omega)]; exact h.2 1 (by decide)
    · rw [lk_in (by omega)]; exact h.2 2 (by decide)
    · rw [lk_in (by omega)]; exact h.2 3 (by decide)
    · rw [lk_in (by omega)]; exact h.2 4 (by decide)
    · rw [lk_in (by omega)]; exact h.2 5 (by decide)
    · rw [lk_in (by omega)]; exact h.2 6 (by decide)
    · rw [lk_in (by omega)]; exact h.2 7 (by decide)
  · intro h
    refine ⟨h.1.1, fun k hk => ?_⟩
    have hk : k < 8 := hk
    obtain ⟨⟨h1, h2, h3, h4⟩, h5, h6, h7, h8, h9⟩ := h
    rw [lk_in (by omega)] at h2 h3 h4 h5 h6 h7 h8 h9
    rcases (show k = 0 ∨ k = 1 ∨ k = 2 ∨ k = 3 ∨ k = 4 ∨ k = 5 ∨ k = 6 ∨ k = 7 by omega) with z | z | z | z | z | z | z | z <;> subst z
    · exact h2
    · exact h3
    · exact h4
    · exact h5
    · exact h6
    · exact h7
    · exact h8
    · exact h9
/-- the digits before pt and m behind it -/
def gb (β : Nat) (T : Nat → Nat) (a pt : Nat) : Nat → Nat
  | 0 => gv β T a (pt - a)
  | m + 1 => gb β T a pt m * β + dg (T (pt + 1 + m))
theorem gv_lt {β : Nat} {T : Nat → Nat} {a : Nat} (hβ : 0 < β) : ∀ m, (∀ j, j < m → T (a + j) = 46 ∨ dg (T (a + j)) < β) → gv β T a m < β ^ m := by
  intro m
  induction m with
  | zero => intro _; exact Nat.one_pos
  | succ m ih =>
    intro h
    have h1 := ih (fun j hj => h j (by omega))
    have h2 : (gv β T a m + 1) * β ≤ β ^ m * β := Nat.mul_le_mul_right β h1
    rw [Nat.add_mul, Nat.one_mul] at h2
    rw [Nat.pow_succ]
    by_cases z : T (a + m) = 46
    · rw [gv_pt z]
      have h3 : β ^ m * 1 ≤ β ^ m * β := Nat.mul_le_mul_left _ hβ
      omega
    · rw [gv_dg z]
      have := (h m (by omega)).elim (fun y => absurd y z) id
      omega
theorem gb_lt {β : Nat} {T : Nat → Nat} {a pt : Nat} (hβ : 0 < β) (h1 : ∀ j, a ≤ j → j < pt → dg (T j) < β) : ∀ m, (∀ j, pt < j → j < pt + 1 + m → dg (T j) < β) → gb β T a pt m < β ^ (pt - a + m) := by
  intro m
  induction m with
  | zero => intro _; exact gv_lt hβ _ (fun j hj => Or.inr (h1 (a + j) (by omega) (by omega)))
  | succ m ih =>
    intro h
    have h3 := ih (fun j a1 a2 => h j a1 (by omega))
    have h2 : (gb β T a pt m + 1) * β ≤ β ^ (pt - a + m) * β := Nat.mul_le_mul_right β h3
    rw [Nat.add_mul, Nat.one_mul] at h2
    have := h (pt + 1 + m) (by omega) (by omega)
    show gb β T a pt m * β + dg (T (pt + 1 + m)) < β ^ (pt - a + m + 1)
    rw [Nat.pow_succ]
    omega
theorem gb_gv {β : Nat} {T : Nat → Nat} {a pt : Nat} (ha : a ≤ pt) (h46 : T pt = 46) : ∀ m, (∀ j, pt < j → j < pt + 1 + m → T j ≠ 46) → gb β T a pt m = gv β T a (pt + 1 + m - a) := by
  intro m
  induction m with
  | zero => intro _; rw [show pt + 1 + 0 - a = pt - a + 1 by omega, gv_pt (by rw [show a + (pt - a) = pt by omega]; exact h46)]; rfl
  | succ m ih =>
    intro h
    have h1 := ih (fun j a1 a2 => h j a1 (by omega))
    show gb β T a pt m * β + dg (T (pt + 1 + m)) = _
    rw [h1, show pt + 1 + (m + 1) - a = pt + 1 + m - a + 1 by omega]
    have e : a + (pt + 1 + m - a) = pt + 1 + m := by omega
    rw [gv_dg (by rw [e]; exact h _ (by omega) (by omega)), e]
theorem gf_no {T : Nat → Nat} {a : Nat} : ∀ m, (∀ j, j < m → T (a + j) ≠ 46) → gf T a m = 0 ∧ gp T a m = false := by
  intro m
  induction m with
  | zero => intro _; exact ⟨rfl, rfl⟩
  | succ m ih =>
    intro h
    have h1 := ih (fun j hj => h j (by omega))
    have h2 := h m (by omega)
    rw [gf_dg h2, gp_dg h2, h1.1, h1.2]; exact ⟨rfl, rfl⟩
theorem gf_bh {T : Nat → Nat} {a pt : Nat} (ha : a ≤ pt) (h46 : T pt = 46) (h0 : ∀ j, a ≤ j → j < pt → T j ≠ 46) : ∀ m, (∀ j, pt < j → j < pt + 1 + m → T j ≠ 46) → gf T a (pt + 1 + m - a) = m ∧ gp T a (pt + 1 + m - a) = true := by
  intro m
  induction m with
  | zero =>
    intro _
    have e : a + (pt - a) = pt := by omega
    rw [show pt + 1 + 0 - a = pt - a + 1 by omega, gf_pt (by rw [e]; exact h46), gp_pt (by rw [e]; exact h46)]
    exact ⟨(gf_no _ (fun j hj => h0 _ (by omega) (by omega))).1, rfl⟩
  | succ m ih =>
    intro h
    have h1 := ih (fun j a1 a2 => h j a1 (by omega))
    have e : a + (pt + 1 + m - a) = pt + 1 + m := by omega
    have h2 : T (a + (pt + 1 + m - a)) ≠ 46 := by rw [e]; exact h _ (by omega) (by omega)
    rw [show pt + 1 + (m + 1) - a = pt + 1 + m - a + 1 by omega, gf_dg h2, gp_dg h2, h1.1, h1.2]
    exact ⟨rfl, rfl⟩
/-- how many digits stand behind the point -/
def bh0 (β : Nat) (T : Nat → Nat) (e a : Nat) : Nat := if lk T e (sk β T e a) = 46 then sk β T e (sk β T e a + 1) - (sk β T e a + 1) else 0
theorem dE_gb {β : Nat} {T : Nat → Nat} {e a : Nat} (hβ : β ≤ 16) : gv β T a (dE β T e a - a) = gb β T a (sk β T e a) (bh0 β T e a) ∧ gf T a (dE β T e a - a) = bh0 β T e a ∧ dN β T e a = sk β T e a - a + bh0 β T e a := by
  have h1 := sk_ge β T e a
  have i1 : ∀ j, a ≤ j → j < sk β T e a → T j ≠ 46 := fun j x y => dg46 hβ (sk_in x y).2
  unfold dE dN bh0
  by_cases h : lk T e (sk β T e a) = 46
  · rw [if_pos h, if_pos h, if_pos h]
    have hlt := lk_lt h (by decide)
    rw [lk_in hlt] at h
    have h2 := sk_ge β T e (sk β T e a + 1)
    have i2 : ∀ j, sk β T e a < j → j < sk β T e a + 1 + (sk β T e (sk β T e a + 1) - (sk β T e a + 1)) → T j ≠ 46 := fun j x y => dg46 hβ (sk_in (e := e) (k := sk β T e a + 1) x (by omega)).2
    have e1 : sk β T e (sk β T e a + 1) - a = sk β T e a + 1 + (sk β T e (sk β T e a + 1) - (sk β T e a + 1)) - a := by omega
    refine ⟨?_, ?_, rfl⟩
    · rw [e1, gb_gv h1 h _ i2]
    · rw [e1]; exact (gf_bh h1 h i1 _ i2).1
  · rw [if_neg h, if_neg h, if_neg h]
    exact ⟨rfl, (gf_no _ (fun j hj => i1 _ (by omega) (by omega))).1, rfl⟩
/-- the first digit that is not 0 -/
theorem gv_r {T : Nat → Nat} {a m0 : Nat} (h0 : gv 10 T a m0 = 0) (hd : dg (T (a + m0)) ≠ 0) : ∀ r, (∀ j, m0 ≤ j → j < m0 + 1 + r → dg (T (a + j)) < 10) → 10 ^ r ≤ gv 10 T a (m0 + 1 + r) ∧ gv 10 T a (m0 + 1 + r) < 10 ^ (r + 1) := by
  intro r
  induction r with
  | zero =>
    intro h
    have h1 := h m0 (by omega) (by omega)
    rw [Nat.add_zero, gv_dg (dg46 (by decide) h1), h0]
    rw [Nat.pow_zero]; omega
  | succ r ih =>
    intro h
    have h1 := ih (fun j x y => h j x (by omega))
    have h2 := h (m0 + 1 + r) (by omega) (by omega)
    rw [show m0 + 1 + (r + 1) = m0 + 1 + r + 1 by omega, gv_dg (dg46 (by decide) h2), Nat.pow_succ, Nat.pow_succ (n := 10) (m := r + 1)]
    omega
theorem gb_r {T : Nat → Nat} {a pt x : Nat} (h0 : 10 ^ x ≤ gb 10 T a pt 0 ∧ gb 10 T a pt 0 < 10 ^ (x + 1)) : ∀ m, (∀ j, pt < j → j < pt + 1 + m → dg (T j) < 10) → 10 ^ (x + m) ≤ gb 10 T a pt m ∧ gb 10 T a pt m < 10 ^ (x + 1 + m) := by
  intro m
  induction m with
  | zero => intro _; exact h0
  | succ m ih =>
    intro h
    have h1 := ih (fun j a1 a2 => h j a1 (by omega))
    have h2 := h (pt + 1 + m) (by omega) (by omega)
    show 10 ^ (x + m + 1) ≤ gb 10 T a pt m * 10 + dg (T (pt + 1 + m)) ∧ gb 10 T a pt m * 10 + dg (T (pt + 1 + m)) < 10 ^ (x + 1 + m + 1)
    rw [Nat.pow_succ, Nat.pow_succ (n := 10) (m := x + 1 + m)]
    omega
theorem gb_r2 {T : Nat → Nat} {a pt m0 : Nat} (h0 : gb 10 T a pt m0 = 0) (hd : dg (T (pt + 1 + m0)) ≠ 0) : ∀ r, (∀ j, pt < j → j < pt + 1 + (m0 + 1 + r) → dg (T j) < 10) → 10 ^ r ≤ gb 10 T a pt (m0 + 1 + r) ∧ gb 10 T a pt (m0 + 1 + r) < 10 ^ (r + 1) := by
  intro r
  induction r with
  | zero =>
    intro h
    have h1 := h (pt + 1 + m0) (by omega) (by omega)
    show 10 ^ 0 ≤ gb 10 T a pt m0 * 10 + dg (T (pt + 1 + m0)) ∧ gb 10 T a pt m0 * 10 + dg (T (pt + 1 + m0)) < 10 ^ (0 + 1)
    rw [h0, Nat.pow_zero]; omega
  | succ r ih =>
    intro h
    have h1 := ih (fun j x y => h j x (by omega))
    have h2 := h (pt + 1 + (m0 + 1 + r)) (by omega) (by omega)
    show 10 ^ (r + 1) ≤ gb 10 T a pt (m0 + 1 + r) * 10 + dg (T (pt + 1 + (m0 + 1 + r))) ∧ gb 10 T a pt (m0 + 1 + r) * 10 + dg (T (pt + 1 + (m0 + 1 + r))) < 10 ^ (r + 1 + 1)
    rw [Nat.pow_succ, Nat.pow_succ (n := 10) (m := r + 1)]
    omega
/-- as many digits, from fs on -/
def cF (pt bh fs : Nat) : Nat := if fs < pt then pt - fs + bh else pt + 1 + bh - fs
def zF (T : Nat → Nat) (a pt fs : Nat) : Prop := (fs ≤ pt → gv 10 T a (fs - a) = 0) ∧ (pt < fs → gb 10 T a pt (fs - pt - 1) = 0)
theorem zF_0 {T : Nat → Nat} {a pt : Nat} (h : a ≤ pt) : zF T a pt a := ⟨fun _ => by rw [Nat.sub_self]; rfl, fun z => by omega⟩
theorem zF_s {T : Nat → Nat} {a pt fs : Nat} (ha : a ≤ fs) (h : zF T a pt fs) (hd : fs = pt ∨ T fs = 48) : zF T a pt (fs + 1) := by
  rcases Nat.lt_trichotomy fs pt with z | z | z
  · have h48 : T fs = 48 := hd.elim (fun y => absurd y (by omega)) id
    refine ⟨fun _ => ?_, fun y => by omega⟩
    have e : a + (fs - a) = fs := by omega
    rw [show fs + 1 - a = fs - a + 1 by omega, gv_dg (by rw [e, h48]; decide), e, h48, h.1 (by omega)]; decide
  · refine ⟨fun y => by omega, fun _ => ?_⟩
    rw [show fs + 1 - pt - 1 = 0 by omega]
    have := h.1 (by omega)
    rw [z] at this; exact this
  · have h48 : T fs = 48 := hd.elim (fun y => absurd y (by omega)) id
    refine ⟨fun y => by omega, fun _ => ?_⟩
    rw [show fs + 1 - pt - 1 = fs - pt - 1 + 1 by omega]
    show gb 10 T a pt (fs - pt - 1) * 10 + dg (T (pt + 1 + (fs - pt - 1))) = 0
    rw [h.2 z, show pt + 1 + (fs - pt - 1) = fs by omega, h48]; decide
theorem zF_e {T : Nat → Nat} {a pt bh fs : Nat} (ha : a ≤ fs) (hap : a ≤ pt) (hz : zF T a pt fs) (hfs : fs ≤ pt + 1 + bh) (h1 : ∀ j, a ≤ j → j < pt → dg (T j) < 10) (h2 : ∀ j, pt < j → j < pt + 1 + bh → dg (T j) < 10) (hM : gb 10 T a pt bh ≠ 0) (hx : fs = pt + 1 + bh ∨ (fs ≠ pt ∧ T fs ≠ 48) ∨ (fs = pt ∧ bh = 0)) :
    0 < cF pt bh fs ∧ cF pt bh fs ≤ pt - a + bh ∧ 10 ^ (cF pt bh fs - 1) ≤ gb 10 T a pt bh ∧ gb 10 T a pt bh < 10 ^ cF pt bh fs := by
  rcases hx with y | y | y
  · have := hz.2 (by omega)
    rw [y, show pt + 1 + bh - pt - 1 = bh by omega] at this
    exact absurd this hM
  · rcases Nat.lt_trichotomy fs pt with z | z | z
    · have e : a + (fs - a) = fs := by omega
      have d1 := h1 fs ha z
      have d2 := dg_10 d1
      have dn : dg (T (a + (fs - a))) ≠ 0 := by rw [e, dg10 d2.1 d2.2]; omega
      have r := gv_r (hz.1 (by omega)) dn (pt - fs - 1) (fun j x w => h1 _ (by omega) (by omega))
      rw [show fs - a + 1 + (pt - fs - 1) = pt - a by omega] at r
      have r2 := gb_r (a := a) (x := pt - fs - 1) r bh h2
      unfold cF
      rw [if_pos z, show pt - fs + bh - 1 = pt - fs - 1 + bh by omega]
      refine ⟨by omega, by omega, r2.1, ?_⟩
      have := r2.2
      rw [show pt - fs - 1 + 1 + bh = pt - fs + bh by omega] at this
      exact this
    · exact absurd z y.1
    · by_cases hl : fs = pt + 1 + bh
      · have := hz.2 z
        rw [hl, show pt + 1 + bh - pt - 1 = bh by omega] at this
        exact absurd this hM
      · have d1 := h2 fs z (by omega)
        have d2 := dg_10 d1
        have e : pt + 1 + (fs - pt - 1) = fs := by omega
        have dn : dg (T (pt + 1 + (fs - pt - 1))) ≠ 0 := by rw [e, dg10 d2.1 d2.2]; omega
        have r := gb_r2 (hz.2 z) dn (bh - (fs - pt - 1) - 1) (fun j x w => h2 _ x (by omega))
        rw [show fs - pt - 1 + 1 + (bh - (fs - pt - 1) - 1) = bh by omega] at r
        unfold cF
        rw [if_neg (by omega), show pt + 1 + bh - fs - 1 = bh - (fs - pt - 1) - 1 by omega]
        refine ⟨by omega, by omega, r.1, ?_⟩
        have := r.2
        rw [show bh - (fs - pt - 1) - 1 + 1 = pt + 1 + bh - fs by omega] at this
        exact this
  · have := hz.1 (by omega)
    rw [y.1] at this
    rw [y.2] at hM
    exact absurd this hM
theorem bit10 {x e : Nat} (h : x < 10 ^ e) (he : e ≤ 2900) : bln x ≤ 9700 := by
  have h1 : 10 ^ e ≤ 10 ^ 2900 := Nat.pow_le_pow_right (by decide) he
  have h2 : 10 ^ 2900 ≤ 2 ^ 9700 := by decide +kernel
  exact bln_le_of (by omega)
theorem bit16 {x e : Nat} (h : x < 16 ^ e) (he : e ≤ 2400) : bln x ≤ 9600 := by
  have h1 : 16 ^ e = 2 ^ (4 * e) := by rw [Nat.pow_mul]
  have h2 : 2 ^ (4 * e) ≤ 2 ^ 9600 := two_pow_le (by omega)
  exact bln_le_of (by omega)
theorem fr_0 {P Z Lw : Nat} {w : Int} : frn P Z Lw 0 1 w = 0 := by unfold frn; rw [Nat.zero_mul, rn_0]
theorem fr_small {P Z Lw M : Nat} {w : Int} (h : (bln M : Int) + w + Lw + 1 ≤ 0) : frn P Z Lw M 1 w = 0 := by
  unfold frn
  refine rn_small ?_
  rw [show (w + Lw).toNat = 0 by omega, Nat.pow_zero, Nat.mul_one, Nat.one_mul]
  have h1 := bln_lt M
  have h2 : 2 ^ (bln M + 1) ≤ 2 ^ (-(w + Lw)).toNat := two_pow_le (by omega)
  rw [Nat.pow_succ] at h2
  omega
theorem fr_large {P Z Lw M : Nat} {w : Int} (hM : M ≠ 0) (h : ((P + Z : Nat) : Int) + 2 ≤ (bln M : Int) + w + Lw) : frn P Z Lw M 1 w = (Z + 2) * 2 ^ (P - 1) := by
  unfold frn
  refine rn_large (Nat.mul_pos (by decide) (Nat.two_pow_pos _)) ?_
  have := nm_ge (A := M) (B := 1) (s1 := (w + Lw).toNat) (s2 := (-(w + Lw)).toNat) (t := P + Z) hM (by rw [show bln 1 = 1 by decide]; omega)
  rw [Nat.mul_comm]; exact this
