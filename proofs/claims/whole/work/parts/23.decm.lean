/-! THE DIGITS OF A LITERAL, with a point among them: whether it came, how many digits stand behind it, what they say -/
def tx (T : Nat → Nat) : Nat → Int32 := fun j => nI (T j)
def gp (T : Nat → Nat) (a : Nat) : Nat → Bool
  | 0 => false
  | n + 1 => if T (a + n) = 46 then true else gp T a n
def gf (T : Nat → Nat) (a : Nat) : Nat → Nat
  | 0 => 0
  | n + 1 => if T (a + n) = 46 then gf T a n else gf T a n + if gp T a n then 1 else 0
def gv (β : Nat) (T : Nat → Nat) (a : Nat) : Nat → Nat
  | 0 => 0
  | n + 1 => if T (a + n) = 46 then gv β T a n else gv β T a n * β + dg (T (a + n))
theorem gp_pt {T : Nat → Nat} {a n : Nat} (h : T (a + n) = 46) : gp T a (n + 1) = true := by show (if _ then _ else _) = _; rw [if_pos h]
theorem gf_pt {T : Nat → Nat} {a n : Nat} (h : T (a + n) = 46) : gf T a (n + 1) = gf T a n := by show (if _ then _ else _) = _; rw [if_pos h]
theorem gv_pt {β : Nat} {T : Nat → Nat} {a n : Nat} (h : T (a + n) = 46) : gv β T a (n + 1) = gv β T a n := by show (if _ then _ else _) = _; rw [if_pos h]
theorem gp_dg {T : Nat → Nat} {a n : Nat} (h : T (a + n) ≠ 46) : gp T a (n + 1) = gp T a n := by show (if _ then _ else _) = _; rw [if_neg h]
theorem gf_dg {T : Nat → Nat} {a n : Nat} (h : T (a + n) ≠ 46) : gf T a (n + 1) = gf T a n + if gp T a n then 1 else 0 := by show (if _ then _ else _) = _; rw [if_neg h]
theorem gv_dg {β : Nat} {T : Nat → Nat} {a n : Nat} (h : T (a + n) ≠ 46) : gv β T a (n + 1) = gv β T a n * β + dg (T (a + n)) := by show (if _ then _ else _) = _; rw [if_neg h]
theorem gf_le (T : Nat → Nat) (a n : Nat) : gf T a n ≤ n := by
  induction n with
  | zero => exact Nat.le_refl 0
  | succ n ih =>
    by_cases h : T (a + n) = 46
    · rw [gf_pt h]; omega
    · rw [gf_dg h]; split <;> omega
theorem dg10 {c : Nat} (h1 : 48 ≤ c) (h2 : c ≤ 57) : dg c = c - 48 := by unfold dg; rw [if_pos ⟨h1, h2⟩]
theorem dec_mul {P Z Lw K r : Nat} {q : Int} : dec P Z Lw (K * 10 ^ r) q = dec P Z Lw K (q + r) := by
  have hE : -q ≤ ((q.natAbs : Nat) : Int) := by omega
  rw [dec_at q.natAbs hE, dec_at (q := q + r) q.natAbs (by omega)]
  congr 2
  have : (q + r + (q.natAbs : Nat)).toNat = r + (q + (q.natAbs : Nat)).toNat := by omega
  rw [this, Nat.pow_add, Nat.mul_assoc]
theorem N1k : ∀ i, i < 2 → 2 ^ (kP i + 1 + kZ i) ≤ 10 ^ (kMd i - 1) * 2 ^ (kLw i + 1) := by decide +kernel
theorem N2k : ∀ i, i < 2 → 2 ^ (kP i + 1) * 5 ^ (kLw i + 1 - 1) ≤ 2 * 10 ^ (kMd i - 1) := by decide +kernel
theorem N3k : ∀ i, i < 2 → 2 ^ (kLw i + 1) ≤ 10 ^ (kLo i + 1) := by decide +kernel
theorem N4k : ∀ i, i < 2 → 2 ^ (kP i + kZ i) ≤ 10 ^ kHi i * 2 ^ kLw i := by decide +kernel
theorem stickyK {i K r t : Nat} {q : Int} (hi : i < 2) (hK : 10 ^ (kMd i - 1) ≤ K) (h0 : 0 < t) (ht : t < 10 ^ r) : dec (kP i) (kZ i) (kLw i) (K * 10 ^ r + t) q = dec (kP i) (kZ i) (kLw i) (K * 10 + 1) (q + r - 1) :=
  dec_sticky hK (N1k i hi) (N2k i hi) h0 ht
theorem ten771 : 10 ^ 772 < pw 96 := by decide +kernel
theorem fit10 {K e : Nat} (h : K < 10 ^ e) (he : e ≤ 772) : K < pw 96 := by
  have h1 : 10 ^ e ≤ 10 ^ 772 := Nat.pow_le_pow_right (by decide) he
  have h2 := ten771
  omega
theorem bln10 {K e : Nat} (h : K < 10 ^ e) (he : e ≤ 772) : bln K ≤ 2900 := by
  have h1 : 10 ^ e ≤ 10 ^ 772 := Nat.pow_le_pow_right (by decide) he
  have h2 : 10 ^ 772 ≤ 2 ^ 2900 := by decide +kernel
  exact bln_le_of (by omega)
/-- one more digit kept -/
theorem kd_step {K kp d : Nat} (hK : K < 10 ^ kp) (h1 : 0 < kp → 10 ^ (kp - 1) ≤ K) (hd : d ≤ 9) (hz : kp = 0 → d ≠ 0) : K * 10 + d < 10 ^ (kp + 1) ∧ 10 ^ kp ≤ K * 10 + d := by
  constructor
  · rw [Nat.pow_succ]; omega
  · rcases Nat.eq_zero_or_pos kp with h | h
    · have := hz h
      rw [h, Nat.pow_zero]; omega
    · have := h1 h
      have e : 10 ^ kp = 10 ^ (kp - 1) * 10 := by rw [← Nat.pow_succ]; congr 1; omega
      omega
theorem e9 {e gs : Nat} (h : gs = 10 ^ e) (he : e < 9) : 0 < gs ∧ gs ≤ 100000000 := by
  have h1 : 10 ^ e ≤ 10 ^ 8 := Nat.pow_le_pow_right (by decide) (by omega)
  have h2 := ten_pos e
  omega
theorem e9n {e gs : Nat} (h : gs = 10 ^ e) (he : e < 9) (hne : gs * 10 ≠ 1000000000) : e + 1 < 9 ∧ gs * 10 = 10 ^ (e + 1) := by
  refine ⟨?_, by rw [h, Nat.pow_succ]⟩
  rcases Nat.lt_or_ge (e + 1) 9 with z | z
  · exact z
  · have : e = 8 := by omega
    subst this
    rw [h] at hne
    exact absurd (by decide) hne
/-- what the gathered digits say -/
def gaOK (i M fr : Nat) (Kf kp : Nat) (pl : Int) : Prop :=
  Kf < 10 ^ kp ∧ (0 < kp → 10 ^ (kp - 1) ≤ Kf) ∧ kp ≤ kMd i + 1 ∧ -3000 ≤ pl ∧ pl ≤ 3000 ∧ ∀ q : Int, dec (kP i) (kZ i) (kLw i) M (q - fr) = dec (kP i) (kZ i) (kLw i) Kf (pl + q - kp)
theorem ga_no {i M fr K kp r : Nat} (hM : M = K * 10 ^ r + 0) (hK : K < 10 ^ kp) (h1 : 0 < kp → 10 ^ (kp - 1) ≤ K) (hk : kp ≤ kMd i) (hkr : kp + r ≤ 2400) (hfr : fr ≤ 2400) : gaOK i M fr K kp ((kp : Int) + r - fr) := by
  refine ⟨hK, h1, by omega, by omega, by omega, fun q => ?_⟩
  rw [hM, Nat.add_zero, dec_mul]
  congr 1
  omega
theorem ga_more {i M fr K kp r t : Nat} (hi : i < 2) (hM : M = K * 10 ^ r + t) (ht : t < 10 ^ r) (h0 : t ≠ 0) (hK : K < 10 ^ kp) (h1 : 0 < kp → 10 ^ (kp - 1) ≤ K) (hk : kp ≤ kMd i) (hr : kp < kMd i → r = 0) (hkr : kp + r ≤ 2400) (hfr : fr ≤ 2400) : gaOK i M fr (K * 10 + 1) (kp + 1) ((kp : Int) + r - fr) := by
  have hr0 : r ≠ 0 := fun z => by rw [z, Nat.pow_zero] at ht; omega
  have hkp : kp = kMd i := by
    rcases Nat.lt_or_ge kp (kMd i) with z | z
    · exact absurd (hr z) hr0
    · omega
  have hmd : 0 < kMd i := by have := kP_b i hi; omega
  have hK1 : 10 ^ (kMd i - 1) ≤ K := by rw [← hkp]; exact h1 (by omega)
  obtain ⟨z1, z2⟩ := kd_step (d := 1) hK h1 (by decide) (fun _ => by decide)
  refine ⟨z1, fun _ => by rw [Nat.add_sub_cancel]; exact z2, by omega, by omega, by omega, fun q => ?_⟩
  rw [hM, stickyK hi hK1 (Nat.pos_of_ne_zero h0) ht]
  congr 1
  omega
theorem tt_of {b : Bool} (h : ¬ b = false) : b = true := by cases b <;> first | rfl | exact absurd rfl h
theorem five_c {c : Nat} (h : c ≤ 1100) : 1 * 5 ^ c < pw 96 ∧ bln (1 * 5 ^ c) ≤ 2900 ∧ 1 * 5 ^ c ≠ 0 := by
  have h1 : 5 ^ c ≤ 5 ^ 1100 := Nat.pow_le_pow_right (by decide) h
  have h2 : 5 ^ 1100 < pw 96 := by decide +kernel
  have h3 : 5 ^ 1100 < 2 ^ 2900 := by decide +kernel
  have h4 : 0 < 5 ^ c := Nat.pow_pos (by decide)
  rw [Nat.one_mul]
  exact ⟨by omega, bln_le_of (by omega), by omega⟩
theorem five_t {K kp c : Nat} (hK : K < 10 ^ kp) (h : kp + c ≤ 772) : K * 5 ^ c < pw 96 ∧ bln (K * 5 ^ c) ≤ 2900 := by
  have h1 : K * 5 ^ c < 10 ^ (kp + c) := by
    rw [Nat.pow_add]
    refine Nat.lt_of_lt_of_le (Nat.mul_lt_mul_of_pos_right hK (Nat.pow_pos (by decide))) (Nat.mul_le_mul_left _ (Nat.pow_le_pow_left (by decide) c))
  exact ⟨fit10 h1 h, bln10 h1 h⟩
theorem dec_fn {P Z Lw K c : Nat} {t : Int} (h : t = -(c : Int)) : dec P Z Lw K t = frn P Z Lw K (1 * 5 ^ c) t := by
  rw [dec_frn, h, show (-(c : Int)).toNat = 0 by omega, show (- -(c : Int)).toNat = c by omega, Nat.pow_zero, Nat.mul_one, Nat.one_mul]
theorem dec_fp {P Z Lw K c : Nat} {t : Int} (h : t = (c : Int)) : dec P Z Lw K t = frn P Z Lw (K * 5 ^ c) 1 t := by
  rw [dec_frn, h, show ((c : Int)).toNat = c by omega, show (-(c : Int)).toNat = 0 by omega, Nat.pow_zero]
