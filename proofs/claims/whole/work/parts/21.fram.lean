theorem isB_nb {f : Nat → Int32} {n V : Nat} (h : isB f n V) : 32 * n ≤ bln V + 31 := by
  cases n with
  | zero => omega
  | succ n =>
    have hne : f n ≠ 0 := by
      rcases h.2.2 with z | z
      · omega
      · exact z
    have := bl_B h
    have := bln_pos (w32_ne hne)
    omega
theorem bl_pow {N s : Nat} (h : N ≠ 0) : N * 2 ^ s < 2 ^ (bln N + s) := by
  rw [Nat.pow_add]; exact Nat.mul_lt_mul_of_pos_right (bln_lt N) (Nat.two_pow_pos s)
theorem pw96 {Y e : Nat} (h : Y < 2 ^ e) (he : e ≤ 3000) : 2 * Y < pw 96 := by
  have h1 : 2 ^ e ≤ 2 ^ 3000 := two_pow_le he
  have h2 : (2 : Nat) * 2 ^ 3000 ≤ pw 96 := by decide +kernel
  omega
theorem fd_start {N D s1 s2 : Nat} (hN : N ≠ 0) (hD : D ≠ 0) (hb : bln N + s1 = bln D + s2) : N * 2 ^ s1 * 2 ^ 0 = 2 * (0 * (D * 2 ^ s2)) + N * 2 ^ s1 ∧ N * 2 ^ s1 < 2 * (D * 2 ^ s2) := by
  constructor
  · rw [Nat.pow_zero, Nat.mul_one, Nat.zero_mul]; omega
  · have d1 := bln_le hD
    have d0 := bln_pos hD
    have h1 := bl_pow (s := s1) hN
    have h2 : 2 ^ (bln D - 1 + s2) ≤ D * 2 ^ s2 := by rw [Nat.pow_add]; exact Nat.mul_le_mul_right _ d1
    have e : bln N + s1 = bln D - 1 + s2 + 1 := by omega
    rw [e, Nat.pow_succ] at h1
    omega
theorem l1_or {n : Nat} (h : n < 9223372036854775808) : lN (n * 2) ||| 1 = lN (2 * n + 1) := by
  show lN (n * 2) ||| lN 1 = _
  rw [wb_or (by omega) (by decide)]
  congr 1
  have := Nat.two_pow_add_eq_or_of_lt (i := 1) (b := 1) (by decide) n
  rw [show n * 2 = 2 ^ 1 * n by omega, ← this]
