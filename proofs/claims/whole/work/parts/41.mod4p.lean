/-! THE REFERENCE'S NUMBERS FROM THEIR BITS -/
theorem sarN {n k : Nat} (h : n < 9223372036854775808) (hk : k < 64) : lN n >>> ((nI k).toInt64 &&& 63) = lN (n / 2 ^ k) := by
  rw [wb_c k hk]
  apply Int64.toInt_inj.mp
  have h2 : (lN n).toInt = (n : Int) := pk_lT (by omega)
  have h3 : (lN (n / 2 ^ k)).toInt = ((n / 2 ^ k : Nat) : Int) := pk_lT (by have := Nat.div_le_self n (2 ^ k); omega)
  rw [h3]
  show ((lN n).toBitVec.sshiftRight ((lN k).toBitVec.smod 64).toNat).toInt = _
  rw [BitVec.toInt_sshiftRight, wb_tb k, wb_sm k hk, BitVec.toNat_ofNat, Nat.mod_eq_of_lt (show k < 2 ^ 64 by omega)]
  have h5 : (lN n).toBitVec.toInt = (n : Int) := h2
  rw [h5, Int.shiftRight_eq_div_pow, Int.natCast_ediv]
theorem frn_sc {P Z Lw N D s1 s2 : Nat} {w : Int} (h : w = (s1 : Int) - s2) : rn P Z (N * 2 ^ s1 * 2 ^ Lw) (D * 2 ^ s2) = frn P Z Lw N D w := by
  unfold frn
  obtain ⟨c, hc⟩ : ∃ c, s2 = (-(w + Lw)).toNat + c := ⟨s2 - (-(w + Lw)).toNat, by omega⟩
  have h1 : s1 + Lw = (w + Lw).toNat + c := by omega
  have e1 : N * 2 ^ s1 * 2 ^ Lw = N * 2 ^ (w + Lw).toNat * 2 ^ c := by rw [Nat.mul_assoc, ← Nat.pow_add, h1, Nat.pow_add, Nat.mul_assoc]
  have e2 : D * 2 ^ s2 = D * 2 ^ (-(w + Lw)).toNat * 2 ^ c := by rw [hc, Nat.pow_add, Nat.mul_assoc]
  rw [e1, e2, rn_scale (Nat.two_pow_pos c)]
theorem ldW_b {i s : Nat} (hi : i < 2) (hs : s < kIN i) : -1074 ≤ ldW i s ∧ ldW i s ≤ 1000 := by
  have hk := kP_b i hi
  have h1 : s / 2 ^ (kP i - 1) < kZ i + 2 := by
    rw [Nat.div_lt_iff_lt_mul (Nat.two_pow_pos _)]; exact hs
  have h2 : kZ i ≤ kLw i + 980 := by rcases (show i = 0 ∨ i = 1 by omega) with z | z <;> rw [z] <;> decide
  unfold ldW
  generalize s / 2 ^ (kP i - 1) = x at *
  split <;> omega
theorem ldM_b {i s : Nat} (hi : i < 2) : ldM i s < 2 ^ 53 := by
  have hk := kP_b i hi
  have h1 := Nat.mod_lt s (Nat.two_pow_pos (kP i - 1))
  have h2 : 2 ^ (kP i - 1) ≤ 2 ^ 52 := two_pow_le (by omega)
  unfold ldM; split <;> omega
def cbu (n : Nat) : Nat → Nat
  | 0 => 0
  | m + 1 => cbu n m + if byt n m = 0 then 0 else 1
theorem cbu_8 (n : Nat) : cbu n 8 = cb n 8 := by
  show 0 + _ + _ + _ + _ + _ + _ + _ + _ = 0 + _ + _ + _ + _ + _ + _ + _ + _
  simp only [Nat.sub_zero, Nat.reduceSub]
  omega
theorem cbu_le (n m : Nat) : cbu n m ≤ m := by
  induction m with
  | zero => exact Nat.le_refl 0
  | succ m ih => unfold cbu; split <;> omega
theorem byt_s {y k : Nat} (hy : y < 2 ^ 64) (hk : k < 8) : lN y >>> ((nI (8 * k)).toInt64 &&& 63) &&& 255 = lN (byt y k) := by
  have h9 := sar_bit y (8 * k) 8 (by omega) (by omega) (by decide)
  rw [Nat.mod_eq_of_lt hy] at h9
  exact h9
