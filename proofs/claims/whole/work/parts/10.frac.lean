/-! DIVIDING BIT BY BIT -/
/-- N / D * 2^w lowest-unit-scaled: the bits of the nearest number of a kind whose lowest unit is 2^-Lw -/
def frn (P Z Lw N D : Nat) (w : Int) : Nat := rn P Z (N * 2 ^ (w + Lw).toNat) (D * 2 ^ (-(w + Lw)).toNat)
/-- a step: twice lead and a bit, twice what is left -/
theorem fd_step {N D i lead t : Nat} (h : N * 2 ^ i = 2 * (lead * D) + t) (ht : t < 2 * D) :
    (D ≤ t → N * 2 ^ (i + 1) = 2 * ((2 * lead + 1) * D) + (t - D) * 2 ∧ (t - D) * 2 < 2 * D) ∧ (¬ D ≤ t → N * 2 ^ (i + 1) = 2 * (2 * lead * D) + t * 2 ∧ t * 2 < 2 * D) := by
  have e : N * 2 ^ (i + 1) = 2 * (2 * (lead * D) + t) := by rw [Nat.pow_succ, ← Nat.mul_assoc, h, Nat.mul_comm]
  constructor
  · intro g
    refine ⟨?_, by omega⟩
    rw [e, Nat.add_mul, Nat.one_mul, Nat.mul_assoc]; omega
  · intro g
    refine ⟨?_, by omega⟩
    rw [e, Nat.mul_assoc 2 lead]; omega
/-- what the bits say: N of n bits, D of d bits, moved to the same length; S = P + 2 steps -/
theorem fd_end {P Z Lw N D s1 s2 lead t : Nat} {w : Int} {more : Bool} (hN : N ≠ 0) (hD : D ≠ 0) (hb : bln N + s1 = bln D + s2) (h : N * 2 ^ s1 * 2 ^ (P + 2) = 2 * (lead * (D * 2 ^ s2)) + t) (ht : t < 2 * (D * 2 ^ s2)) (hm : more = true ↔ t ≠ 0) :
    frn P Z Lw N D w = kn P Z lead (w + ((s2 : Int) - s1) - ((P : Int) + 1) + Lw) more ∧ lead < 2 ^ (P + 2) := by
  have n1 := bln_le hN
  have n2 := bln_lt N
  have d1 := bln_le hD
  have d2 := bln_lt D
  have n0 := bln_pos hN
  have d0 := bln_pos hD
  obtain ⟨X, hX⟩ : ∃ X, X = N * 2 ^ s1 := ⟨_, rfl⟩
  obtain ⟨Y, hY⟩ : ∃ Y, Y = D * 2 ^ s2 := ⟨_, rfl⟩
  rw [← hX, ← hY] at h
  rw [← hY] at ht
  have x1 : 2 ^ (bln N + s1 - 1) ≤ X := by
    have e : bln N + s1 - 1 = (bln N - 1) + s1 := by omega
    rw [hX, e, Nat.pow_add]; exact Nat.mul_le_mul_right _ n1
  have x2 : X < 2 ^ (bln N + s1) := by
    rw [hX, Nat.pow_add]; exact Nat.mul_lt_mul_of_pos_right n2 (Nat.two_pow_pos _)
  have y1 : 2 ^ (bln N + s1 - 1) ≤ Y := by
    have e : bln N + s1 - 1 = (bln D - 1) + s2 := by omega
    rw [hY, e, Nat.pow_add]; exact Nat.mul_le_mul_right _ d1
  have y2 : Y < 2 ^ (bln N + s1) := by
    rw [hb, hY, Nat.pow_add]; exact Nat.mul_lt_mul_of_pos_right d2 (Nat.two_pow_pos _)
  have e2 : 2 ^ (bln N + s1) = 2 * 2 ^ (bln N + s1 - 1) := by
    have : bln N + s1 = (bln N + s1 - 1) + 1 := by omega
    conv => lhs; rw [this]
    rw [Nat.pow_succ, Nat.mul_comm]
  have xy : X < 2 * Y := by omega
  have yx : Y < 2 * X := by omega
  have hY0 : 0 < Y := by have := Nat.two_pow_pos (bln N + s1 - 1); omega
  have pS : 2 ^ (P + 2) = 2 * 2 ^ (P + 1) := by rw [Nat.pow_succ, Nat.mul_comm]
  have h' : X * 2 ^ (P + 1) = lead * Y + t / 2 ∧ t % 2 = 0 := by
    have e3 : X * 2 ^ (P + 2) = 2 * (X * 2 ^ (P + 1)) := by rw [pS, Nat.mul_left_comm]
    omega
  obtain ⟨h', ht2⟩ := h'
  have l1 : lead * Y ≤ X * 2 ^ (P + 1) := by omega
  have l2 : X * 2 ^ (P + 1) < (lead + 1) * Y := by rw [Nat.add_mul, Nat.one_mul]; omega
  have lm : more = true ↔ lead * Y ≠ X * 2 ^ (P + 1) := by rw [hm]; omega
  have up : lead < 2 ^ (P + 2) := by
    have g : lead * Y < 2 ^ (P + 2) * Y := by
      refine Nat.lt_of_le_of_lt l1 ?_
      rw [pS, Nat.mul_assoc, Nat.mul_comm _ Y, ← Nat.mul_assoc]
      exact Nat.mul_lt_mul_of_pos_right xy (Nat.two_pow_pos _)
    exact Nat.lt_of_mul_lt_mul_right g
  have lo : 2 ^ P ≤ lead := by
    have pP : 2 ^ (P + 1) = 2 * 2 ^ P := by rw [Nat.pow_succ, Nat.mul_comm]
    have g : 2 ^ P * Y < (lead + 1) * Y := by
      refine Nat.lt_of_le_of_lt ?_ l2
      rw [pP, ← Nat.mul_assoc, Nat.mul_comm _ Y]
      exact Nat.mul_le_mul_right _ (by omega)
    have := Nat.lt_of_mul_lt_mul_right g
    omega
  refine ⟨?_, up⟩
  unfold frn
  -- exponents: u - v is the power that lead stands at
  obtain ⟨a1, ha1⟩ : ∃ a1 : Nat, a1 = (w + Lw).toNat := ⟨_, rfl⟩
  obtain ⟨b1, hb1⟩ : ∃ b1 : Nat, b1 = (-(w + Lw)).toNat := ⟨_, rfl⟩
  rw [← ha1, ← hb1]
  refine rn_kn (u := a1 + s2) (v := s1 + b1 + (P + 1)) (Nat.mul_pos (Nat.pos_of_ne_zero hD) (Nat.two_pow_pos _)) (by omega) ?_ ?_ ?_ (fun _ => ?_)
  · have el : lead * 2 ^ (a1 + s2) * (D * 2 ^ b1) = lead * Y * (2 ^ a1 * 2 ^ b1) := by
      rw [hY, Nat.pow_add]; ac_rfl
    have er : N * 2 ^ a1 * 2 ^ (s1 + b1 + (P + 1)) = X * 2 ^ (P + 1) * (2 ^ a1 * 2 ^ b1) := by
      rw [hX, Nat.pow_add, Nat.pow_add]; ac_rfl
    rw [el, er]; exact Nat.mul_le_mul_right _ l1
  · have el : (lead + 1) * 2 ^ (a1 + s2) * (D * 2 ^ b1) = (lead + 1) * Y * (2 ^ a1 * 2 ^ b1) := by
      rw [hY, Nat.pow_add]; ac_rfl
    have er : N * 2 ^ a1 * 2 ^ (s1 + b1 + (P + 1)) = X * 2 ^ (P + 1) * (2 ^ a1 * 2 ^ b1) := by
      rw [hX, Nat.pow_add, Nat.pow_add]; ac_rfl
    rw [el, er]; exact Nat.mul_lt_mul_of_pos_right l2 (Nat.mul_pos (Nat.two_pow_pos _) (Nat.two_pow_pos _))
  · have el : lead * 2 ^ (a1 + s2) * (D * 2 ^ b1) = lead * Y * (2 ^ a1 * 2 ^ b1) := by
      rw [hY, Nat.pow_add]; ac_rfl
    have er : N * 2 ^ a1 * 2 ^ (s1 + b1 + (P + 1)) = X * 2 ^ (P + 1) * (2 ^ a1 * 2 ^ b1) := by
      rw [hX, Nat.pow_add, Nat.pow_add]; ac_rfl
    rw [el, er, lm]
    have hp : 0 < 2 ^ a1 * 2 ^ b1 := Nat.mul_pos (Nat.two_pow_pos _) (Nat.two_pow_pos _)
    constructor
    · intro z y; exact z (Nat.eq_of_mul_eq_mul_right hp y)
    · intro z y; exact z (by rw [y])
  · have : P < bln lead := lt_bln lo
    omega
