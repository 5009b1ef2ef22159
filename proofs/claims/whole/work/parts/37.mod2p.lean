/-! THE REFERENCE'S DIVISION AND ROUNDING -/
theorem zI_wrap (z : Int) : zI (z + 4294967296) = zI z := by
  have h : zI 4294967296 = 0 := by decide
  rw [← zI_add, h, Int32.add_zero]
theorem z_and {d : Int} {w b : Nat} (h : d = (w : Int) - 65536 * b) (hw : w < 65536) (hb : b ≤ 1) : zI d &&& 65535 = nI w := by
  rcases (show b = 0 ∨ b = 1 by omega) with z | z
  · subst z
    have e : zI d = nI w := by rw [← zI_nI]; exact congrArg zI (by omega)
    rw [e]
    have h9 := pk_andN (n := w) (by omega) (m := 65535) 16 (by decide)
    rw [h9]; exact congrArg nI (Nat.mod_eq_of_lt hw)
  · subst z
    have e : zI d = nI (w + 4294901760) := by rw [← zI_wrap, ← zI_nI]; exact congrArg zI (by omega)
    rw [e]
    have h9 := pk_andN (n := w + 4294901760) (by omega) (m := 65535) 16 (by decide)
    rw [h9]; exact congrArg nI (by omega)
theorem bln_half {d : Nat} (h : d ≠ 0) : bln (d / 2) + 1 = bln d := by
  have h1 := bln_le h
  have h2 := bln_lt d
  have h0 := bln_pos h
  by_cases hd : d / 2 = 0
  · have : d = 1 := by omega
    subst this; rfl
  · have e : bln d = (bln d - 2) + 2 := by
      rcases Nat.lt_or_ge (bln d) 2 with z | z
      · have : bln d = 1 := by omega
        rw [this] at h2; omega
      · omega
    have p1 : 2 ^ (bln d - 1) = 2 * 2 ^ (bln d - 2) := by
      have : bln d - 1 = (bln d - 2) + 1 := by omega
      rw [this, Nat.pow_succ, Nat.mul_comm]
    have p2 : 2 ^ bln d = 2 * 2 ^ (bln d - 1) := by
      have : bln d = (bln d - 1) + 1 := by omega
      conv => lhs; rw [this]
      rw [Nat.pow_succ, Nat.mul_comm]
    have := bln_eq (q := d / 2) (k := bln d - 2) (by omega) (by rw [show bln d - 2 + 1 = bln d - 1 by omega]; omega)
    omega
theorem bits_16 {V n : Nat} (hn : lc V = n + 1) : bln V = 16 * n + bln (dig V n) := by
  have hV : V < 65536 ^ (n + 1) := by rw [← hn]; exact lc_lt V
  have h1 := dv_s V n
  rw [Nat.div_eq_of_lt hV, Nat.zero_mul, Nat.zero_add] at h1
  have hne : V ≠ 0 := fun z => by rw [lc_0.mpr z] at hn; omega
  have hd : dig V n ≠ 0 := fun z => by
    have := lc_le (lt_dn hV z)
    omega
  have hp := p16 n
  have m1 := Nat.div_add_mod V (65536 ^ n)
  have m2 := Nat.mod_lt V hp
  rw [h1] at m1
  have b1 := bln_le hd
  have b2 := bln_lt (dig V n)
  have b0 := bln_pos hd
  have r : 16 * n + bln (dig V n) = (16 * n + (bln (dig V n) - 1)) + 1 := by omega
  rw [r]
  refine bln_eq ?_ ?_
  · rw [Nat.pow_add, ← p16_2]
    have := Nat.mul_le_mul_left (65536 ^ n) b1
    omega
  · rw [← r, Nat.pow_add, ← p16_2]
    have := Nat.mul_le_mul_left (65536 ^ n) (show dig V n + 1 ≤ 2 ^ bln (dig V n) by omega)
    rw [Nat.mul_add, Nat.mul_one] at this
    omega
/-- a step of dividing: Y what is held against, S the size that twice it is -/
theorem md_step {X q A Y : Nat} (h : X = q * (Y * 2) + A) (hA : A < Y * 2) : (Y ≤ A → X = (2 * q + 1) * Y + (A - Y) ∧ A - Y < Y) ∧ (¬ Y ≤ A → X = 2 * q * Y + A ∧ A < Y) := by
  constructor
  · intro g
    refine ⟨?_, by omega⟩
    rw [h, Nat.add_mul, Nat.one_mul, Nat.mul_comm Y 2, ← Nat.mul_assoc, Nat.mul_comm q 2]; omega
  · intro g
    refine ⟨?_, by omega⟩
    rw [h, Nat.mul_comm Y 2, ← Nat.mul_assoc, Nat.mul_comm q 2]
/-- A / B, told in units of 2^(j0 - Lw): q whole ones and r of B' over -/
theorem mo_end {P Z Lw A B s1 s2 q r j0 c Q : Nat} (hA : A ≠ 0) (hB : B ≠ 0) (hP : 1 < P) (hj : Lw + s2 = j0 + s1) (h : A * 2 ^ s1 = q * (B * 2 ^ s2) + r) (hr : r < B * 2 ^ s2) (hlo : j0 ≠ 0 → 2 ^ (P - 1) ≤ q)
    (hc : (c = 0 ∧ q < 2 ^ P) ∨ (c = 1 ∧ 2 ^ P ≤ q ∧ q < 2 ^ (P + 1))) (hQ : Q = rne (A * 2 ^ s1) (B * 2 ^ s2 * 2 ^ c)) :
    rn P Z (A * 2 ^ Lw) B = (if Q < 2 ^ (P - 1) then Q else if Z + 2 ≤ (if Q = 2 ^ P then j0 + c + 2 else j0 + c + 1) then (Z + 2) * 2 ^ (P - 1) else (j0 + c) * 2 ^ (P - 1) + Q) ∧ Q ≤ 2 ^ P := by
  have hB0 : 0 < B := Nat.pos_of_ne_zero hB
  have pP : 2 ^ P = 2 * 2 ^ (P - 1) := by
    have : P = (P - 1) + 1 := by omega
    conv => lhs; rw [this]
    rw [Nat.pow_succ, Nat.mul_comm]
  have pP1 : 2 ^ (P + 1) = 2 * 2 ^ P := by rw [Nat.pow_succ, Nat.mul_comm]
  -- the size in lowest units lies in [q, q + 1) * 2^j0
  have c1 : q * 2 ^ j0 * B ≤ A * 2 ^ Lw := by
    have h1 : q * (B * 2 ^ s2) * 2 ^ Lw ≤ A * 2 ^ s1 * 2 ^ Lw := Nat.mul_le_mul_right _ (by omega)
    have e1 : q * (B * 2 ^ s2) * 2 ^ Lw = q * 2 ^ j0 * B * 2 ^ s1 := by
      have : 2 ^ s2 * 2 ^ Lw = 2 ^ j0 * 2 ^ s1 := by rw [← Nat.pow_add, ← Nat.pow_add, Nat.add_comm, hj]
      calc q * (B * 2 ^ s2) * 2 ^ Lw = q * B * (2 ^ s2 * 2 ^ Lw) := by ac_rfl
        _ = q * B * (2 ^ j0 * 2 ^ s1) := by rw [this]
        _ = q * 2 ^ j0 * B * 2 ^ s1 := by ac_rfl
    have e2 : A * 2 ^ s1 * 2 ^ Lw = A * 2 ^ Lw * 2 ^ s1 := by ac_rfl
    rw [e1, e2] at h1
    exact Nat.le_of_mul_le_mul_right h1 (Nat.two_pow_pos s1)
  have c2 : A * 2 ^ Lw < (q + 1) * 2 ^ j0 * B := by
    have h1 : A * 2 ^ s1 * 2 ^ Lw < (q + 1) * (B * 2 ^ s2) * 2 ^ Lw := Nat.mul_lt_mul_of_pos_right (by rw [Nat.add_mul, Nat.one_mul]; omega) (Nat.two_pow_pos _)
    have e1 : (q + 1) * (B * 2 ^ s2) * 2 ^ Lw = (q + 1) * 2 ^ j0 * B * 2 ^ s1 := by
      have : 2 ^ s2 * 2 ^ Lw = 2 ^ j0 * 2 ^ s1 := by rw [← Nat.pow_add, ← Nat.pow_add, Nat.add_comm, hj]
      calc (q + 1) * (B * 2 ^ s2) * 2 ^ Lw = (q + 1) * B * (2 ^ s2 * 2 ^ Lw) := by ac_rfl
        _ = (q + 1) * B * (2 ^ j0 * 2 ^ s1) := by rw [this]
        _ = (q + 1) * 2 ^ j0 * B * 2 ^ s1 := by ac_rfl
    have e2 : A * 2 ^ s1 * 2 ^ Lw = A * 2 ^ Lw * 2 ^ s1 := by ac_rfl
    rw [e1, e2] at h1
    exact Nat.lt_of_mul_lt_mul_right h1
  have hju : ju P (A * 2 ^ Lw / B) = j0 + c := by
    by_cases hq : q = 0
    · have hj00 : j0 = 0 := Classical.byContradiction (fun z => by have := hlo z; have := Nat.two_pow_pos (P - 1); omega)
      have hc0 : c = 0 := by
        rcases hc with z | z
        · exact z.1
        · have := Nat.two_pow_pos P; omega
      rw [hq, hj00] at c2
      have : A * 2 ^ Lw / B = 0 := Nat.div_eq_of_lt (by rw [Nat.zero_add, Nat.pow_zero, Nat.one_mul] at c2; omega)
      unfold ju; rw [this, bln_0, hj00, hc0]; omega
    · have := ju_of (P := P) (a := A * 2 ^ Lw) (b := B) (lead := q) (u := j0) (v := 0) (pe := j0) hB0 hq (by omega) (by rw [Nat.pow_zero, Nat.mul_one]; exact c1) (by rw [Nat.pow_zero, Nat.mul_one]; exact c2)
      rw [this]
      rcases hc with z | z
      · have hb := bln_le_of z.2
        rcases Nat.eq_zero_or_pos j0 with w | w
        · omega
        · have := lt_bln (hlo (by omega)); omega
      · have hb := bln_le_of z.2.2
        have := lt_bln z.2.1; omega
  have hrn : rne (A * 2 ^ Lw) (B * 2 ^ (j0 + c)) = Q := by
    rw [hQ]
    have e1 : rne (A * 2 ^ Lw) (B * 2 ^ (j0 + c)) = rne (A * 2 ^ Lw * 2 ^ s1) (B * 2 ^ (j0 + c) * 2 ^ s1) := (rne_scale (Nat.two_pow_pos _)).symm
    have e2 : rne (A * 2 ^ s1) (B * 2 ^ s2 * 2 ^ c) = rne (A * 2 ^ s1 * 2 ^ Lw) (B * 2 ^ s2 * 2 ^ c * 2 ^ Lw) := (rne_scale (Nat.two_pow_pos _)).symm
    rw [e1, e2]
    have e3 : B * 2 ^ (j0 + c) * 2 ^ s1 = B * 2 ^ s2 * 2 ^ c * 2 ^ Lw := by
      have : 2 ^ (j0 + c) * 2 ^ s1 = 2 ^ s2 * 2 ^ c * 2 ^ Lw := by rw [← Nat.pow_add, ← Nat.pow_add, ← Nat.pow_add]; congr 1; omega
      rw [Nat.mul_assoc, this]; ac_rfl
    rw [e3]; congr 1; ac_rfl
  -- bounds of Q
  have hX : A * 2 ^ s1 < (q + 1) * (B * 2 ^ s2) := by rw [Nat.add_mul, Nat.one_mul]; omega
  have hbb : 0 < B * 2 ^ s2 := Nat.mul_pos hB0 (Nat.two_pow_pos _)
  have hQb : q / 2 ^ c ≤ Q ∧ Q ≤ q / 2 ^ c + 1 := by
    rcases hc with ⟨z, _⟩ | ⟨z, _⟩
    · subst z
      rw [Nat.pow_zero, Nat.div_one, hQ, Nat.pow_zero, Nat.mul_one, rne_at h hr]
      split <;> omega
    · subst z
      rw [Nat.pow_one]
      have hh : A * 2 ^ s1 = q / 2 * (B * 2 ^ s2 * 2) + (q % 2 * (B * 2 ^ s2) + r) := by
        have e : q = q / 2 * 2 + q % 2 := by omega
        rw [h]
        conv => lhs; rw [e]
        rw [Nat.add_mul, Nat.mul_assoc, Nat.mul_comm 2, Nat.add_assoc]
      have hl : q % 2 * (B * 2 ^ s2) + r < B * 2 ^ s2 * 2 := by
        rcases (show q % 2 = 0 ∨ q % 2 = 1 by omega) with y | y <;> rw [y] <;> omega
      rw [hQ, Nat.pow_one, rne_at hh hl]
      split <;> omega
  have hQle : Q ≤ 2 ^ P := by
    rcases hc with z | z
    · rw [z.1, Nat.pow_zero, Nat.div_one] at hQb; omega
    · rw [z.1, Nat.pow_one] at hQb; omega
  refine ⟨?_, hQle⟩
  unfold rn
  rw [hju, hrn]
  by_cases hz : Z < j0 + c
  · rw [if_pos hz]
    have hge : ¬ Q < 2 ^ (P - 1) := by
      rcases hc with z | z
      · rw [z.1, Nat.pow_zero, Nat.div_one] at hQb
        have := hlo (by omega); omega
      · rw [z.1, Nat.pow_one] at hQb; omega
    rw [if_neg hge, if_pos (by split <;> omega)]
  · rw [if_neg hz]
    by_cases hs : Q < 2 ^ (P - 1)
    · rw [if_pos hs]
      have : j0 + c = 0 := by
        rcases hc with z | z
        · rw [z.1, Nat.pow_zero, Nat.div_one] at hQb
          have : j0 = 0 := Classical.byContradiction (fun y => by have := hlo y; omega)
          omega
        · rw [z.1, Nat.pow_one] at hQb; omega
      rw [this, Nat.zero_mul, Nat.zero_add]
    · rw [if_neg hs]
      by_cases hq2 : Q = 2 ^ P
      · rw [if_pos hq2]
        by_cases hz2 : Z + 2 ≤ j0 + c + 2
        · rw [if_pos hz2, hq2, pP]
          have : j0 + c = Z := by omega
          rw [this, Nat.add_mul]
        · rw [if_neg hz2]
      · rw [if_neg hq2, if_neg (by omega)]
