/-! DECIMALS: out of fives and twos; too small and too large ones -/
theorem dec_frn {P Z Lw T : Nat} {t : Int} : dec P Z Lw T t = frn P Z Lw (T * 5 ^ t.toNat) (5 ^ (-t).toNat) t := by
  have e10 : ∀ n : Nat, 10 ^ n = 5 ^ n * 2 ^ n := fun n => by rw [← Nat.mul_pow]
  unfold dec frn
  rcases Int.le_total 0 t with h | h
  · obtain ⟨k, hk⟩ := Int.eq_ofNat_of_zero_le h
    subst hk
    have a1 : ((k : Int)).toNat = k := by omega
    have a2 : (-(k : Int)).toNat = 0 := by omega
    have a3 : ((k : Int) + Lw).toNat = k + Lw := by omega
    have a4 : (-((k : Int) + Lw)).toNat = 0 := by omega
    rw [a1, a2, a3, a4, e10 k]
    have : T * (5 ^ k * 2 ^ k) * 2 ^ Lw = T * 5 ^ k * 2 ^ (k + Lw) := by rw [Nat.pow_add]; ac_rfl
    rw [this]
  · obtain ⟨k, hk⟩ := Int.eq_ofNat_of_zero_le (show 0 ≤ -t by omega)
    have ht : t = -(k : Int) := by omega
    subst ht
    have a1 : (-(k : Int)).toNat = 0 := by omega
    have a2 : (- -(k : Int)).toNat = k := by omega
    rw [a1, a2, e10 k]
    rcases Nat.le_total k Lw with g | g
    · have a3 : (-(k : Int) + Lw).toNat = Lw - k := by omega
      have a4 : (-(-(k : Int) + Lw)).toNat = 0 := by omega
      rw [a3, a4]
      have e1 : T * 10 ^ 0 * 2 ^ Lw = T * 5 ^ 0 * 2 ^ (Lw - k) * 2 ^ k := by
        rw [Nat.mul_assoc _ (2 ^ (Lw - k)), ← Nat.pow_add]; congr 2; omega
      have e2 : 5 ^ k * 2 ^ k = 5 ^ k * 2 ^ 0 * 2 ^ k := by rw [Nat.pow_zero, Nat.mul_one]
      rw [e1, e2, rn_scale (Nat.two_pow_pos k)]
    · have a3 : (-(k : Int) + Lw).toNat = 0 := by omega
      have a4 : (-(-(k : Int) + Lw)).toNat = k - Lw := by omega
      rw [a3, a4]
      have e1 : T * 10 ^ 0 * 2 ^ Lw = T * 5 ^ 0 * 2 ^ 0 * 2 ^ Lw := by simp
      have e2 : 5 ^ k * 2 ^ k = 5 ^ k * 2 ^ (k - Lw) * 2 ^ Lw := by
        rw [Nat.mul_assoc, ← Nat.pow_add]; congr 2; omega
      rw [e1, e2, rn_scale (Nat.two_pow_pos Lw)]
theorem rn_small {P Z a b : Nat} (h : 2 * a < b) : rn P Z a b = 0 := by
  have hd : a / b = 0 := Nat.div_eq_of_lt (by omega)
  have hj : ju P (a / b) = 0 := by unfold ju; rw [hd, bln_0]; omega
  unfold rn
  rw [hj, if_neg (by omega), Nat.zero_mul, Nat.zero_add, Nat.pow_zero, Nat.mul_one]
  rw [rne_at (q := 0) (r := a) (by omega) (by omega)]
  rw [if_neg (by omega)]
theorem rn_large {P Z a b : Nat} (hb : 0 < b) (h : 2 ^ (P + Z) * b ≤ a) : rn P Z a b = (Z + 2) * 2 ^ (P - 1) := by
  have h1 : 2 ^ (P + Z) ≤ a / b := (Nat.le_div_iff_mul_le hb).mpr h
  have h2 : P + Z < bln (a / b) := lt_bln h1
  unfold rn
  rw [if_pos (by unfold ju; omega)]
theorem dec_0 {P Z Lw : Nat} {q : Int} : dec P Z Lw 0 q = 0 := by
  unfold dec
  rw [Nat.zero_mul, Nat.zero_mul]
  exact rn_small (by have := ten_pos (-q).toNat; omega)
/-- a size below 10^-h, h not below h0 -/
theorem dec_small {P Z Lw M c h0 : Nat} {q : Int} (N : 2 ^ (Lw + 1) ≤ 10 ^ h0) (hM : M < 10 ^ c) (h : (c : Int) + q ≤ -(h0 : Int)) : dec P Z Lw M q = 0 := by
  unfold dec
  have a1 : q.toNat = 0 := by omega
  obtain ⟨k, hk⟩ : ∃ k : Nat, (-q).toNat = c + h0 + k := ⟨(-q).toNat - (c + h0), by omega⟩
  rw [a1, hk, Nat.pow_zero, Nat.mul_one]
  refine rn_small ?_
  have e1 : 2 * (M * 2 ^ Lw) = M * 2 ^ (Lw + 1) := by rw [Nat.pow_succ]; ac_rfl
  rw [e1, Nat.pow_add 10 (c + h0) k, Nat.pow_add 10 c h0]
  have h1 : M * 2 ^ (Lw + 1) < 10 ^ c * 10 ^ h0 := Nat.lt_of_lt_of_le (Nat.mul_lt_mul_of_pos_right hM (Nat.two_pow_pos _)) (Nat.mul_le_mul_left _ N)
  exact Nat.lt_of_lt_of_le h1 (Nat.le_mul_of_pos_right _ (ten_pos k))
/-- a size not below 10^h, h not below h1 -/
theorem dec_large {P Z Lw M c h1 : Nat} {q : Int} (N : 2 ^ (P + Z) ≤ 10 ^ h1 * 2 ^ Lw) (hM : 10 ^ c ≤ M) (h : (h1 : Int) ≤ (c : Int) + q) : dec P Z Lw M q = (Z + 2) * 2 ^ (P - 1) := by
  unfold dec
  refine rn_large (ten_pos _) ?_
  have e : 10 ^ h1 * 10 ^ (-q).toNat ≤ M * 10 ^ q.toNat := by
    refine Nat.le_trans ?_ (Nat.mul_le_mul_right _ hM)
    rw [← Nat.pow_add, ← Nat.pow_add]
    exact Nat.pow_le_pow_right (by decide) (by omega)
  calc 2 ^ (P + Z) * 10 ^ (-q).toNat ≤ 10 ^ h1 * 2 ^ Lw * 10 ^ (-q).toNat := Nat.mul_le_mul_right _ N
    _ = 10 ^ h1 * 10 ^ (-q).toNat * 2 ^ Lw := by ac_rfl
    _ ≤ M * 10 ^ q.toNat * 2 ^ Lw := Nat.mul_le_mul_right _ e
theorem N3w : 2 ^ (1074 + 1) ≤ 10 ^ 324 := by decide +kernel
theorem N3n : 2 ^ (149 + 1) ≤ 10 ^ 46 := by decide +kernel
theorem N4w : 2 ^ (53 + 2045) ≤ 10 ^ 309 * 2 ^ 1074 := by decide +kernel
theorem N4n : 2 ^ (24 + 253) ≤ 10 ^ 39 * 2 ^ 149 := by decide +kernel
