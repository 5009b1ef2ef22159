/-! HALVING STEPS, digits, bytes of a long -/
def stp : Nat → Nat
  | 0 => 0
  | j + 1 => 2 ^ j
theorem stp_p {j : Nat} (h : 0 < j) : stp j = 2 ^ (j - 1) := by
  obtain ⟨i, rfl⟩ : ∃ i, j = i + 1 := ⟨j - 1, by omega⟩
  rw [Nat.add_sub_cancel]; rfl
theorem stp_lt : ∀ j, j < 7 → stp j < 64 := by decide
theorem stp_h : ∀ j, j < 7 → nI (stp j) >>> ((1 : Int32) &&& 31) = nI (stp (j - 1)) := by decide +kernel
theorem stp_0 : ∀ j, j < 7 → (nI (stp j) ≤ 0 ↔ j = 0) := by decide +kernel
theorem stp_d {j : Nat} (h : 0 < j) : stp j + 2 ^ (j - 1) = 2 ^ j := by
  rw [stp_p h]
  have e : 2 ^ j = 2 ^ (j - 1) * 2 := by rw [← Nat.pow_succ]; congr 1; omega
  omega
theorem bl_up {r j : Nat} (hj : 0 < j) (hr : r < 2 ^ (2 ^ j)) : r / 2 ^ stp j < 2 ^ (2 ^ (j - 1)) := by
  rw [Nat.div_lt_iff_lt_mul (Nat.two_pow_pos _), ← Nat.pow_add, Nat.add_comm, stp_d hj]; exact hr
theorem bl_dn {r j : Nat} (hj : 0 < j) (hr : r / 2 ^ stp j = 0) : r < 2 ^ (2 ^ (j - 1)) := by
  rw [← stp_p hj]
  rcases Nat.lt_or_ge r (2 ^ stp j) with h | h
  · exact h
  · have := (Nat.le_div_iff_mul_le (Nat.two_pow_pos (stp j))).mpr (show 1 * 2 ^ stp j ≤ r by omega)
    omega
theorem bl_end {n r c : Nat} (e : r = n / 2 ^ c) (h2 : r < 2) (h0 : n ≠ 0 → r ≠ 0) : (r = 0 → bln n = 0) ∧ (r ≠ 0 → bln n = c + 1) := by
  constructor
  · intro z
    have : n = 0 := by
      by_cases hn : n = 0
      · exact hn
      · exact absurd z (h0 hn)
    rw [this]; rfl
  · intro z
    have hr : n / 2 ^ c = 1 := by omega
    refine bln_eq ?_ ?_
    · have := (Nat.le_div_iff_mul_le (k := 2 ^ c) (x := 1) (y := n) (Nat.two_pow_pos c)).mp (by omega)
      omega
    · have := (Nat.div_lt_iff_lt_mul (x := n) (y := 2) (Nat.two_pow_pos c)).mp (by omega)
      rw [Nat.pow_succ]; omega
/-- the worth of a digit's character; 16 for another -/
def dg (c : Nat) : Nat := if 48 ≤ c ∧ c ≤ 57 then c - 48 else if 97 ≤ c ∧ c ≤ 102 then c - 87 else if 65 ≤ c ∧ c ≤ 70 then c - 55 else 16
/-- byte k of a long -/
def byt (n k : Nat) : Nat := n / 2 ^ (8 * k) % 256
theorem byt_lt (n k : Nat) : byt n k < 256 := Nat.mod_lt _ (by decide)
/-- how many of the highest m bytes are not 0 -/
def cb (n : Nat) : Nat → Nat
  | 0 => 0
  | m + 1 => cb n m + if byt n (7 - m) = 0 then 0 else 1
theorem cb_le (n m : Nat) : cb n m ≤ m := by
  induction m with
  | zero => exact Nat.le_refl 0
  | succ m ih => unfold cb; split <;> omega
theorem byt_l {n k : Nat} (hn : n < 2 ^ 64) : lN (n / 2 ^ (8 * k)) &&& 255 = lN (byt n k) := wb_mask (k := 8) (Nat.lt_of_le_of_lt (Nat.div_le_self _ _) hn) (by decide)
