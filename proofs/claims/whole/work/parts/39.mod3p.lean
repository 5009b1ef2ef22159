/-! THE REFERENCE'S NEAREST -/
theorem nm_lt {A B s1 s2 t : Nat} (hB : B ≠ 0) (h : bln A + s1 ≤ bln B + s2 + t) : A * 2 ^ s1 < B * 2 ^ s2 * 2 ^ (t + 1) := by
  have b0 := bln_pos hB
  have h1 : A * 2 ^ s1 < 2 ^ (bln A + s1) := by rw [Nat.pow_add]; exact Nat.mul_lt_mul_of_pos_right (bln_lt A) (Nat.two_pow_pos s1)
  have h2 : 2 ^ (bln A + s1) ≤ 2 ^ (bln B - 1 + s2 + (t + 1)) := two_pow_le (by omega)
  have h3 : 2 ^ (bln B - 1 + s2 + (t + 1)) ≤ B * 2 ^ s2 * 2 ^ (t + 1) := by
    rw [Nat.pow_add, Nat.pow_add]; exact Nat.mul_le_mul_right _ (Nat.mul_le_mul_right _ (bln_le hB))
  omega
theorem nm_ge {A B s1 s2 t : Nat} (hA : A ≠ 0) (h : bln B + s2 + t + 1 ≤ bln A + s1) : B * 2 ^ s2 * 2 ^ t ≤ A * 2 ^ s1 := by
  have a0 := bln_pos hA
  have h1 : B * 2 ^ s2 * 2 ^ t ≤ 2 ^ (bln B + s2 + t) := by
    rw [Nat.pow_add, Nat.pow_add]; exact Nat.mul_le_mul_right _ (Nat.mul_le_mul_right _ (Nat.le_of_lt (bln_lt B)))
  have h2 : 2 ^ (bln B + s2 + t) ≤ 2 ^ (bln A - 1 + s1) := two_pow_le (by omega)
  have h3 : 2 ^ (bln A - 1 + s1) ≤ A * 2 ^ s1 := by rw [Nat.pow_add]; exact Nat.mul_le_mul_right _ (bln_le hA)
  omega
theorem nm_big {P Z Lw A B : Nat} (hA : A ≠ 0) (hB : B ≠ 0) (h : bln B + (P + Z) + 1 ≤ bln A + Lw) : rn P Z (A * 2 ^ Lw) B = (Z + 2) * 2 ^ (P - 1) := by
  refine rn_large (Nat.pos_of_ne_zero hB) ?_
  have := nm_ge (s1 := Lw) (s2 := 0) (t := P + Z) (B := B) hA (by omega)
  rw [Nat.pow_zero, Nat.mul_one, Nat.mul_comm] at this
  exact this
theorem nm_2 {Y e : Nat} : Y * 2 ^ (e + 1) = Y * 2 ^ e * 2 := by rw [Nat.pow_succ, Nat.mul_assoc]
theorem nm_h {Y e : Nat} : Y * 2 ^ (e + 1) / 2 = Y * 2 ^ e := by rw [nm_2, Nat.mul_div_cancel _ (by decide)]
theorem nm_q {X Y q r t : Nat} (h : X = q * Y + r) (hX : X < Y * 2 ^ t) : q < 2 ^ t := by
  refine Nat.lt_of_mul_lt_mul_right (a := Y) ?_
  rw [Nat.mul_comm (2 ^ t)]; omega
theorem nm_q2 {X Y q r t : Nat} (h : X = q * Y + r) (hr : r < Y) (hX : Y * 2 ^ t ≤ X) : 2 ^ t ≤ q := by
  have h1 : 2 ^ t * Y < (q + 1) * Y := by rw [Nat.mul_comm, Nat.add_mul, Nat.one_mul]; omega
  have := Nat.lt_of_mul_lt_mul_right h1
  omega
/-- the end of it all -/
theorem nm_end {P Z Lw A B s1 s2 q r J : Nat} (hA : A ≠ 0) (hB : B ≠ 0) (hP : 1 < P) (hj : Lw + s2 = J + s1) (hb1 : bln A + s1 ≤ bln B + s2 + P) (hb2 : J ≠ 0 → bln A + s1 = bln B + s2 + P) (h : A * 2 ^ s1 = q * (B * 2 ^ s2) + r) (hr : r < B * 2 ^ s2) :
    q < 2 ^ (P + 1) ∧ moR P Z (J + if q < 2 ^ P then 0 else 1) (rne (q * (B * 2 ^ s2) + r) (B * 2 ^ s2 * 2 ^ (if q < 2 ^ P then 0 else 1))) = rn P Z (A * 2 ^ Lw) B := by
  have hq : q < 2 ^ (P + 1) := nm_q h (nm_lt hB hb1)
  have hlo : J ≠ 0 → 2 ^ (P - 1) ≤ q := fun z => nm_q2 h hr (nm_ge hA (by have := hb2 z; omega))
  refine ⟨hq, ?_⟩
  rw [← h]
  have hc : ((if q < 2 ^ P then 0 else 1) = 0 ∧ q < 2 ^ P) ∨ ((if q < 2 ^ P then 0 else 1) = 1 ∧ 2 ^ P ≤ q ∧ q < 2 ^ (P + 1)) := by
    by_cases z : q < 2 ^ P
    · exact Or.inl ⟨if_pos z, z⟩
    · exact Or.inr ⟨if_neg z, by omega, hq⟩
  exact (mo_end (Z := Z) hA hB hP hj h hr hlo hc rfl).1.symm
theorem rn_0 {P Z B : Nat} : rn P Z 0 B = 0 := by
  rcases Nat.eq_zero_or_pos B with h | h
  · subst h; unfold rn rne ju; rw [Nat.zero_div, bln_0, Nat.zero_sub, if_neg (by omega)]; simp
  · exact rn_small (by omega)
theorem lc_half (V : Nat) : lc (V / 2) ≤ lc V := lc_mono (Nat.div_le_self _ _)
theorem okV_b {V : Nat → Nat} (h : okV V) {r e : Nat} (he : bln (V r) ≤ e) (h9 : e ≤ 15000) : lc (V r) ≤ 999 := Nat.le_trans (lc_b he) (by omega)
theorem lc_p {x s e : Nat} (he : bln x ≤ e) (h9 : e + s ≤ 15900) : lc (x * 2 ^ s) ≤ 995 := by
  have := lc_b (V := x * 2 ^ s) (e := e + s) (Nat.le_trans bl_mul (by omega))
  omega
