/-! THE REFERENCE'S NUMBERS: rows of 16 bits each -/
def dig (V j : Nat) : Nat := V / 65536 ^ j % 65536
theorem dig_lt (V j : Nat) : dig V j < 65536 := Nat.mod_lt _ (by decide)
theorem p16 (n : Nat) : 0 < 65536 ^ n := Nat.pow_pos (by decide)
theorem dig_hi {V j : Nat} (h : V < 65536 ^ j) : dig V j = 0 := by unfold dig; rw [Nat.div_eq_of_lt h]
theorem p16_le {a b : Nat} (h : a ≤ b) : 65536 ^ a ≤ 65536 ^ b := Nat.pow_le_pow_right (by decide) h
theorem p16_2 (n : Nat) : 65536 ^ n = 2 ^ (16 * n) := by rw [Nat.pow_mul]
def lc (V : Nat) : Nat := (bln V + 15) / 16
theorem lc_lt (V : Nat) : V < 65536 ^ lc V := by
  rw [p16_2]
  exact Nat.lt_of_lt_of_le (bln_lt V) (two_pow_le (by unfold lc; omega))
theorem lc_le {V n : Nat} (h : V < 65536 ^ n) : lc V ≤ n := by
  rw [p16_2] at h
  have := bln_le_of h
  unfold lc; omega
theorem lc_ge {V n : Nat} (h : 65536 ^ n ≤ V) : n < lc V := by
  rw [p16_2] at h
  have := lt_bln h
  unfold lc; omega
theorem lc_0 {V : Nat} : lc V = 0 ↔ V = 0 := by
  constructor
  · intro h
    by_cases hV : V = 0
    · exact hV
    · have := bln_pos hV
      unfold lc at h; omega
  · intro h; rw [h]; rfl
theorem dv_s (A k : Nat) : A / 65536 ^ k = A / 65536 ^ (k + 1) * 65536 + dig A k := by
  unfold dig
  rw [Nat.pow_succ, ← Nat.div_div_eq_div_mul]
  omega
theorem lt_dn {V k : Nat} (h : V < 65536 ^ (k + 1)) (h0 : dig V k = 0) : V < 65536 ^ k := by
  have h1 := dv_s V k
  rw [Nat.div_eq_of_lt h, h0] at h1
  have h2 : V / 65536 ^ k = 0 := by omega
  exact (Nat.div_eq_zero_iff_lt (p16 k)).mp h2
theorem ge_of {V k : Nat} (h0 : dig V k ≠ 0) : 65536 ^ k ≤ V := by
  rcases Nat.lt_or_ge V (65536 ^ k) with h | h
  · exact absurd (dig_hi h) h0
  · exact h
/-- the rows in one array, the counts in another -/
def rw16 (V : Nat → Nat) : Nat → Int32 := fun j => nI (dig (V (j / 1000)) (j % 1000))
def rc (V : Nat → Nat) : Nat → Int32 := fun q => nI (lc (V q))
def upR (V : Nat → Nat) (r W : Nat) : Nat → Nat := fun q => if q = r then W else V q
theorem upR_s (V : Nat → Nat) (r W : Nat) : upR V r W r = W := if_pos rfl
theorem upR_n {V : Nat → Nat} {r W q : Nat} (h : q ≠ r) : upR V r W q = V q := if_neg h
theorem upR_u (V : Nat → Nat) (r W X : Nat) : upR (upR V r W) r X = upR V r X := by
  funext q; unfold upR; split <;> rfl
theorem upR_self (V : Nat → Nat) (r : Nat) : upR V r (V r) = V := by
  funext q; unfold upR; split
  · rename_i h; rw [h]
  · rfl
theorem rc_upd (V : Nat → Nat) (r W : Nat) : upd (rc V) r (nI (lc W)) = rc (upR V r W) := by
  funext q; unfold upd rc upR; split <;> rfl
def mx (V : Nat → Nat) (r k W : Nat) : Nat → Int32 := fun j => nI (if j / 1000 = r ∧ j % 1000 < k then dig W (j % 1000) else dig (V (j / 1000)) (j % 1000))
def my (V : Nat → Nat) (r k W : Nat) : Nat → Int32 := fun j => nI (if j / 1000 = r ∧ k ≤ j % 1000 then dig W (j % 1000) else dig (V (j / 1000)) (j % 1000))
theorem ix_r {r k : Nat} (hk : k < 1000) : (1000 * r + k) / 1000 = r ∧ (1000 * r + k) % 1000 = k := by omega
theorem rw_at {V : Nat → Nat} {r k : Nat} (hk : k < 1000) : rw16 V (1000 * r + k) = nI (dig (V r) k) := by unfold rw16; rw [(ix_r hk).1, (ix_r hk).2]
theorem mx_ge {V : Nat → Nat} {r k c W : Nat} (hk : k < 1000) (h : c ≤ k) : mx V r c W (1000 * r + k) = nI (dig (V r) k) := by
  unfold mx; rw [(ix_r hk).1, (ix_r hk).2, if_neg (by omega)]
theorem mx_ne {V : Nat → Nat} {r q k c W : Nat} (hq : q ≠ r) (hk : k < 1000) : mx V r c W (1000 * q + k) = nI (dig (V q) k) := by
  unfold mx; rw [(ix_r hk).1, (ix_r hk).2, if_neg (fun z => hq z.1)]
theorem mx_0 (V : Nat → Nat) (r W : Nat) : mx V r 0 W = rw16 V := by
  funext j; unfold mx rw16; rw [if_neg (by omega)]
theorem mx_s {V : Nat → Nat} {r k W : Nat} (hk : k < 1000) : upd (mx V r k W) (1000 * r + k) (nI (dig W k)) = mx V r (k + 1) W := by
  funext j
  unfold upd mx
  by_cases hj : j = 1000 * r + k
  · rw [if_pos hj, hj, (ix_r hk).1, (ix_r hk).2, if_pos ⟨rfl, by omega⟩]
  · rw [if_neg hj]
    by_cases h : j / 1000 = r ∧ j % 1000 < k
    · rw [if_pos h, if_pos ⟨h.1, by omega⟩]
    · rw [if_neg h, if_neg (by omega)]
theorem mx_e {V : Nat → Nat} {r k W : Nat} (h1 : V r < 65536 ^ k) (h2 : W < 65536 ^ k) : mx V r k W = rw16 (upR V r W) := by
  funext j
  unfold mx rw16 upR
  by_cases hj : j / 1000 = r
  · rw [if_pos hj]
    by_cases h : j % 1000 < k
    · rw [if_pos ⟨hj, h⟩]
    · have hp := p16_le (show k ≤ j % 1000 by omega)
      rw [if_neg (fun z => h z.2), hj, dig_hi (show V r < 65536 ^ (j % 1000) by omega), dig_hi (show W < 65536 ^ (j % 1000) by omega)]
  · rw [if_neg hj, if_neg (fun z => hj z.1)]
theorem my_start {V : Nat → Nat} {r k W : Nat} (h1 : V r < 65536 ^ k) (h2 : W < 65536 ^ k) : my V r k W = rw16 V := by
  funext j
  unfold my rw16
  by_cases h : j / 1000 = r ∧ k ≤ j % 1000
  · have hp := p16_le h.2
    rw [if_pos h, h.1, dig_hi (show V r < 65536 ^ (j % 1000) by omega), dig_hi (show W < 65536 ^ (j % 1000) by omega)]
  · rw [if_neg h]
theorem my_at {V : Nat → Nat} {r j k W : Nat} (hj : j < k) (hk : j < 1000) : my V r k W (1000 * r + j) = nI (dig (V r) j) := by
  unfold my; rw [(ix_r hk).1, (ix_r hk).2, if_neg (by omega)]
theorem my_s {V : Nat → Nat} {r k W : Nat} (h0 : 0 < k) (hk : k ≤ 1000) : upd (my V r k W) (1000 * r + (k - 1)) (nI (dig W (k - 1))) = my V r (k - 1) W := by
  funext j
  unfold upd my
  by_cases hj : j = 1000 * r + (k - 1)
  · rw [if_pos hj, hj, (ix_r (show k - 1 < 1000 by omega)).1, (ix_r (show k - 1 < 1000 by omega)).2, if_pos ⟨rfl, by omega⟩]
  · rw [if_neg hj]
    by_cases h : j / 1000 = r ∧ k ≤ j % 1000
    · rw [if_pos h, if_pos ⟨h.1, by omega⟩]
    · rw [if_neg h, if_neg (by omega)]
theorem my_e (V : Nat → Nat) (r W : Nat) : my V r 0 W = rw16 (upR V r W) := by
  funext j
  unfold my rw16 upR
  by_cases hj : j / 1000 = r
  · rw [if_pos ⟨hj, Nat.zero_le _⟩, if_pos hj]
  · rw [if_neg hj, if_neg (fun z => hj z.1)]
/-- times and plus, digit by digit -/
def cyg (V v mo k : Nat) : Nat := (V % 65536 ^ k * v + mo) / 65536 ^ k
theorem cyg_0 {V v mo : Nat} : cyg V v mo 0 = mo := by unfold cyg; rw [Nat.pow_zero, Nat.mod_one, Nat.zero_mul, Nat.zero_add, Nat.div_one]
theorem g_step {V v mo k : Nat} : dig (V * v + mo) k = (dig V k * v + cyg V v mo k) % 65536 ∧ cyg V v mo (k + 1) = (dig V k * v + cyg V v mo k) / 65536 := by
  have hp := p16 k
  have eV : V = V / 65536 ^ k * 65536 ^ k + V % 65536 ^ k := by rw [Nat.mul_comm]; exact (Nat.div_add_mod V (65536 ^ k)).symm
  constructor
  · unfold dig cyg
    have e1 : V * v + mo = V / 65536 ^ k * v * 65536 ^ k + (V % 65536 ^ k * v + mo) := by
      conv => lhs; rw [eV]
      rw [Nat.add_mul, Nat.add_assoc]; congr 1; ac_rfl
    rw [e1, Nat.add_comm, Nat.add_mul_div_right _ _ hp, Nat.add_comm, Nat.add_mod, Nat.mul_mod]
    conv => rhs; rw [Nat.add_mod, Nat.mul_mod, Nat.mod_mod]
  · unfold cyg dig
    rw [Nat.pow_succ]
    have e1 : V % (65536 ^ k * 65536) = V % 65536 ^ k + 65536 ^ k * (V / 65536 ^ k % 65536) := Nat.mod_mul
    rw [e1, Nat.add_mul, ← Nat.div_div_eq_div_mul]
    congr 1
    have e2 : V % 65536 ^ k * v + 65536 ^ k * (V / 65536 ^ k % 65536) * v + mo = (V % 65536 ^ k * v + mo) + 65536 ^ k * (V / 65536 ^ k % 65536 * v) := by
      rw [Nat.mul_assoc]; omega
    rw [e2, Nat.add_mul_div_left _ _ hp, Nat.add_comm]
theorem cyg_lt {V v mo k : Nat} (hm : mo < v) : cyg V v mo k < v := by
  induction k with
  | zero => rw [cyg_0]; exact hm
  | succ k ih =>
    rw [g_step.2]
    have h1 := dig_lt V k
    have h2 : (dig V k + 1) * v ≤ 65536 * v := Nat.mul_le_mul_right v h1
    rw [Nat.add_mul, Nat.one_mul] at h2
    exact (Nat.div_lt_iff_lt_mul (by decide)).mpr (by rw [Nat.mul_comm v]; omega)
theorem g_int {V v mo k : Nat} (hm : mo < v) (hv : v ≤ 32768) : dig V k * v + cyg V v mo k < 2147483648 := by
  have h1 := dig_lt V k
  have h2 := cyg_lt (V := V) (k := k) hm
  have h3 : dig V k * v ≤ 65535 * v := Nat.mul_le_mul_right v (by omega)
  omega
/-- moved up by whole digits; halved -/
theorem sh_dig {V w k : Nat} : dig (V * 65536 ^ w) k = if w ≤ k then dig V (k - w) else 0 := by
  unfold dig
  split
  · rename_i h
    have e : 65536 ^ k = 65536 ^ w * 65536 ^ (k - w) := by rw [← Nat.pow_add]; congr 1; omega
    rw [e, ← Nat.div_div_eq_div_mul, Nat.mul_div_cancel _ (p16 w)]
  · rename_i h
    have e : 65536 ^ w = 65536 ^ (w - k - 1) * 65536 * 65536 ^ k := by
      rw [← Nat.pow_succ, ← Nat.pow_add]; congr 1; omega
    rw [e, ← Nat.mul_assoc, Nat.mul_div_cancel _ (p16 k), ← Nat.mul_assoc, Nat.mul_mod_left]
theorem hv_dig {V k : Nat} : dig (V / 2) k = dig V k / 2 + dig V (k + 1) % 2 * 32768 := by
  unfold dig
  rw [Nat.div_div_eq_div_mul, Nat.mul_comm 2, ← Nat.div_div_eq_div_mul, Nat.pow_succ, ← Nat.div_div_eq_div_mul]
  omega
/-- taken away, digit by digit -/
def brw (A B k : Nat) : Nat := if A % 65536 ^ k < B % 65536 ^ k then 1 else 0
theorem brw_0 {A B : Nat} : brw A B 0 = 0 := by unfold brw; rw [Nat.pow_zero, Nat.mod_one, Nat.mod_one, if_neg (by decide)]
theorem sub_mod_b {A B P : Nat} (hP : 0 < P) (h : B ≤ A) : (A - B) % P + B % P = A % P + if A % P < B % P then P else 0 := by
  have ha := Nat.mod_lt A hP
  have hb := Nat.mod_lt B hP
  have eA := Nat.div_add_mod A P
  have eB := Nat.div_add_mod B P
  generalize A % P = a at *
  generalize B % P = b at *
  generalize hx : A / P = x at *
  generalize hy : B / P = y at *
  have hxy : y ≤ x := by
    rcases Nat.lt_or_ge x y with z | z
    · have : P * (x + 1) ≤ P * y := Nat.mul_le_mul_left P z
      rw [Nat.mul_add, Nat.mul_one] at this
      omega
    · exact z
  split
  · rename_i hlt
    have hxy2 : y + 1 ≤ x := by
      rcases Nat.lt_or_ge y x with z | z
      · exact z
      · have : x = y := by omega
        rw [this] at eA; omega
    have e : A - B = P * (x - y - 1) + (P + a - b) := by
      have h1 : P * (x - y - 1) + P * (y + 1) = P * x := by rw [← Nat.mul_add]; congr 1; omega
      rw [Nat.mul_add, Nat.mul_one] at h1
      omega
    rw [e, Nat.mul_add_mod, Nat.mod_eq_of_lt (by omega)]; omega
  · rename_i hge
    have e : A - B = P * (x - y) + (a - b) := by
      have h1 : P * (x - y) + P * y = P * x := by rw [← Nat.mul_add]; congr 1; omega
      omega
    rw [e, Nat.mul_add_mod, Nat.mod_eq_of_lt (by omega)]; omega
theorem s_step {A B k : Nat} (h : B ≤ A) : dig (A - B) k + dig B k + brw A B k = dig A k + 65536 * brw A B (k + 1) := by
  have hp := p16 k
  have m1 := sub_mod_b hp h
  have m2 := sub_mod_b (P := 65536 ^ k * 65536) (by omega) h
  have e : ∀ X : Nat, X % (65536 ^ k * 65536) = X % 65536 ^ k + 65536 ^ k * dig X k := fun X => Nat.mod_mul
  unfold brw
  rw [Nat.pow_succ]
  rw [e, e, e] at m2
  rw [e, e]
  have la := Nat.mod_lt A hp
  have lb := Nat.mod_lt B hp
  have lw := Nat.mod_lt (A - B) hp
  generalize A % 65536 ^ k = a at *
  generalize B % 65536 ^ k = b at *
  generalize (A - B) % 65536 ^ k = w at *
  generalize dig A k = dA at *
  generalize dig B k = dB at *
  generalize dig (A - B) k = dW at *
  generalize 65536 ^ k = P at *
  -- what is left over is a multiple of P
  have key : P * (dW + dB + (if a < b then 1 else 0)) = P * (dA + 65536 * (if a + P * dA < b + P * dB then 1 else 0)) := by
    rw [Nat.mul_add, Nat.mul_add, Nat.mul_add]
    by_cases c1 : a < b
    · rw [if_pos c1] at m1 ⊢
      by_cases c2 : a + P * dA < b + P * dB
      · rw [if_pos c2] at m2 ⊢; omega
      · rw [if_neg c2] at m2 ⊢; omega
    · rw [if_neg c1] at m1 ⊢
      by_cases c2 : a + P * dA < b + P * dB
      · rw [if_pos c2] at m2 ⊢; omega
      · rw [if_neg c2] at m2 ⊢; omega
  exact Nat.eq_of_mul_eq_mul_left hp key
theorem i1000 {r k : Nat} : (1000 : Int32) * nI r + nI k = nI (1000 * r + k) := by show nI 1000 * nI r + nI k = _; rw [pk_mul, nI_add]
theorem sar_bit (x s t : Nat) (hst : s + t ≤ 64) (hs : s < 64) (ht : t < 64) : lN x >>> ((nI s).toInt64 &&& 63) &&& lN (2 ^ t - 1) = lN (x % 2 ^ 64 / 2 ^ s % 2 ^ t) := by
  rw [wb_c s hs]
  apply wb_inj
  apply BitVec.eq_of_getLsbD_eq
  intro i hi
  have hb : (lN (2 ^ t - 1)).toBitVec.getLsbD i = decide (i < t) := by
    rw [wb_tb, BitVec.getLsbD_ofNat, Nat.testBit_two_pow_sub_one]
    simp [hi]
  have hr : (lN (x % 2 ^ 64 / 2 ^ s % 2 ^ t)).toBitVec.getLsbD i = (decide (i < t) && x.testBit (s + i) && decide (s + i < 64)) := by
    rw [wb_tb, BitVec.getLsbD_ofNat, Nat.testBit_mod_two_pow, Nat.testBit_div_two_pow, Nat.testBit_mod_two_pow]
    rw [Nat.add_comm i s]
    cases decide (i < t) <;> cases decide (s + i < 64) <;> simp [hi]
  rw [hr, Int64.toBitVec_and, BitVec.getLsbD_and, hb, Int64.toBitVec_shiftRight]
  rw [wb_tb, wb_tb, wb_sm s hs]
  by_cases hit : i < t
  · have h1 : s + i < 64 := by omega
    rw [BitVec.sshiftRight_eq', BitVec.toNat_ofNat, Nat.mod_eq_of_lt (show s < 2 ^ 64 by omega), BitVec.getLsbD_sshiftRight]
    simp only [hit, h1, decide_true, Bool.and_true, Bool.true_and, if_true, if_pos, show ¬ 64 ≤ i by omega, decide_false, Bool.not_false]
    rw [BitVec.getLsbD_ofNat]
    simp [h1]
  · simp [hit]
