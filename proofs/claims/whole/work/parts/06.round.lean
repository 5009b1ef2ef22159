/-! ROUNDING: the nearest whole number, the nearest number of a kind (precision P, Z units above the lowest), in lowest units a / b -/
/-- how many bits -/
def bln (q : Nat) : Nat := if q = 0 then 0 else Nat.log2 q + 1
theorem bln_0 : bln 0 = 0 := rfl
theorem bln_lt (q : Nat) : q < 2 ^ bln q := by
  unfold bln
  by_cases h : q = 0
  · rw [if_pos h, h]; decide
  · rw [if_neg h]; exact (Nat.log2_lt h).mp (Nat.lt_succ_self _)
theorem bln_le {q : Nat} (h : q ≠ 0) : 2 ^ (bln q - 1) ≤ q := by
  unfold bln
  rw [if_neg h, Nat.add_sub_cancel]
  exact (Nat.le_log2 h).mp (Nat.le_refl _)
theorem bln_pos {q : Nat} (h : q ≠ 0) : 0 < bln q := by unfold bln; rw [if_neg h]; omega
theorem bln_eq {q k : Nat} (h1 : 2 ^ k ≤ q) (h2 : q < 2 ^ (k + 1)) : bln q = k + 1 := by
  have hq : q ≠ 0 := by have := Nat.two_pow_pos k; omega
  have a1 : k ≤ q.log2 := (Nat.le_log2 hq).mpr h1
  have a2 : q.log2 < k + 1 := (Nat.log2_lt hq).mpr h2
  unfold bln
  rw [if_neg hq]; omega
theorem bln_le_of {q k : Nat} (h : q < 2 ^ k) : bln q ≤ k := by
  unfold bln
  by_cases hq : q = 0
  · rw [if_pos hq]; omega
  · rw [if_neg hq]; exact (Nat.log2_lt hq).mpr h
theorem lt_bln {q k : Nat} (h : 2 ^ k ≤ q) : k < bln q := by
  have hq : q ≠ 0 := by have := Nat.two_pow_pos k; omega
  unfold bln
  rw [if_neg hq]
  have := (Nat.le_log2 hq).mpr h
  omega
/-- a / b to the nearest whole number, of two to the even one -/
def rne (a b : Nat) : Nat := if b < 2 * (a % b) ∨ (2 * (a % b) = b ∧ (a / b) % 2 = 1) then a / b + 1 else a / b
/-- how many units of the lowest, as a power of two, a number with q lowest units is told in -/
def ju (P q : Nat) : Nat := bln q - P
/-- the bits of the nearest number to a / b lowest units -/
def rn (P Z a b : Nat) : Nat := if Z < ju P (a / b) then (Z + 2) * 2 ^ (P - 1) else ju P (a / b) * 2 ^ (P - 1) + rne a (b * 2 ^ ju P (a / b))
theorem rne_scale {a b k : Nat} (hk : 0 < k) : rne (a * k) (b * k) = rne a b := by
  unfold rne
  rw [Nat.mul_div_mul_right a b hk, Nat.mul_mod_mul_right]
  have e1 : (b * k < 2 * (a % b * k)) ↔ b < 2 * (a % b) := by
    rw [← Nat.mul_assoc]; exact Nat.mul_lt_mul_right hk
  have e2 : (2 * (a % b * k) = b * k) ↔ 2 * (a % b) = b := by
    rw [← Nat.mul_assoc]; exact Nat.mul_left_inj (Nat.pos_iff_ne_zero.mp hk)
  simp only [e1, e2]
theorem rn_scale {P Z a b k : Nat} (hk : 0 < k) : rn P Z (a * k) (b * k) = rn P Z a b := by
  unfold rn
  rw [Nat.mul_div_mul_right a b hk]
  have e : b * k * 2 ^ ju P (a / b) = b * 2 ^ ju P (a / b) * k := by rw [Nat.mul_assoc, Nat.mul_comm k, ← Nat.mul_assoc]
  rw [e, rne_scale hk]
theorem rne_at {a b q r : Nat} (h : a = q * b + r) (hr : r < b) : rne a b = if b < 2 * r ∨ (2 * r = b ∧ q % 2 = 1) then q + 1 else q := by
  have hb : 0 < b := by omega
  have hd : a / b = q := by rw [h, Nat.mul_comm, Nat.mul_add_div hb, Nat.div_eq_of_lt hr]; omega
  have hm : a % b = r := by rw [h, Nat.mul_comm, Nat.mul_add_mod, Nat.mod_eq_of_lt hr]
  unfold rne
  rw [hd, hm]
theorem rne_exact {b q : Nat} (hb : 0 < b) : rne (q * b) b = q := by
  rw [rne_at (q := q) (r := 0) (by omega) hb]
  rw [if_neg (by omega)]
/-- a number that was cut off behind its d lowest bits, with 'more' behind it -/
def rd (lead d : Nat) (more : Bool) : Nat := if 2 ^ (d - 1) < lead % 2 ^ d ∨ (lead % 2 ^ d = 2 ^ (d - 1) ∧ (more = true ∨ (lead / 2 ^ d) % 2 = 1)) then lead / 2 ^ d + 1 else lead / 2 ^ d
theorem rne_rd {a c lead d : Nat} {more : Bool} (hd : 0 < d) (h1 : lead * c ≤ a) (h2 : a < (lead + 1) * c) (hm : more = true ↔ lead * c ≠ a) : rne a (c * 2 ^ d) = rd lead d more := by
  obtain ⟨q, hq⟩ : ∃ q, q = lead / 2 ^ d := ⟨_, rfl⟩
  obtain ⟨r, hr⟩ : ∃ r, r = lead % 2 ^ d := ⟨_, rfl⟩
  obtain ⟨e, he⟩ : ∃ e, e = a - lead * c := ⟨_, rfl⟩
  have hp : 2 ^ d = 2 * 2 ^ (d - 1) := by
    have : d = (d - 1) + 1 := by omega
    rw [this, Nat.pow_succ, Nat.mul_comm]; rfl
  obtain ⟨hf, hhf⟩ : ∃ hf, hf = 2 ^ (d - 1) := ⟨_, rfl⟩
  have hf0 : 0 < hf := by rw [hhf]; exact Nat.two_pow_pos _
  have hlead : lead = q * 2 ^ d + r := by rw [hq, hr, Nat.mul_comm]; exact (Nat.div_add_mod lead (2 ^ d)).symm
  have hrl : r < 2 ^ d := by rw [hr]; exact Nat.mod_lt _ (Nat.two_pow_pos d)
  have hec : e < c := by
    rw [Nat.add_mul, Nat.one_mul] at h2; omega
  have ha : a = lead * c + e := by omega
  have hrc : (r + 1) * c ≤ 2 ^ d * c := Nat.mul_le_mul_right c hrl
  have hrlt : r * c + e < c * 2 ^ d := by
    rw [Nat.add_mul, Nat.one_mul] at hrc
    rw [Nat.mul_comm c]; omega
  have ha2 : a = q * (c * 2 ^ d) + (r * c + e) := by
    rw [ha, hlead, Nat.add_mul, Nat.mul_assoc q, Nat.mul_comm (2 ^ d) c, Nat.add_assoc]
  rw [rne_at ha2 hrlt]
  unfold rd
  rw [← hq, ← hr, ← hhf]
  have hmm : more = true ↔ 0 < e := by
    rw [hm]; omega
  have hcd : c * 2 ^ d = 2 * (hf * c) := by rw [hp, ← hhf, Nat.mul_comm c, Nat.mul_assoc]
  have key : (c * 2 ^ d < 2 * (r * c + e) ∨ (2 * (r * c + e) = c * 2 ^ d ∧ q % 2 = 1)) ↔ (hf < r ∨ (r = hf ∧ (more = true ∨ q % 2 = 1))) := by
    rw [hmm, hcd]
    rcases Nat.lt_trichotomy r hf with h | h | h
    · have : (r + 1) * c ≤ hf * c := Nat.mul_le_mul_right c h
      rw [Nat.add_mul, Nat.one_mul] at this
      constructor
      · intro z; rcases z with z | z <;> omega
      · intro z; rcases z with z | z <;> omega
    · subst h
      constructor
      · intro z
        rcases z with z | z
        · exact Or.inr ⟨rfl, Or.inl (by omega)⟩
        · exact Or.inr ⟨rfl, Or.inr z.2⟩
      · intro z
        rcases z with z | z
        · omega
        · rcases z.2 with y | y
          · exact Or.inl (by omega)
          · by_cases h0 : 0 < e
            · exact Or.inl (by omega)
            · exact Or.inr ⟨by omega, y⟩
    · have : (hf + 1) * c ≤ r * c := Nat.mul_le_mul_right c h
      rw [Nat.add_mul, Nat.one_mul] at this
      have hc0 : 0 < c := by omega
      exact ⟨fun _ => Or.inl h, fun _ => Or.inl (by omega)⟩
  simp only [key]
/-- the bits of the nearest number to lead * 2^pe lowest units, or to a size above that and below (lead + 1) * 2^pe -/
def kn (P Z lead : Nat) (pe : Int) (more : Bool) : Nat :=
  if lead = 0 then 0 else
  if Z < (pe + bln lead - P).toNat then (Z + 2) * 2 ^ (P - 1) else
  (pe + bln lead - P).toNat * 2 ^ (P - 1) + (if ((pe + bln lead - P).toNat : Int) ≤ pe then lead * 2 ^ (pe - (pe + bln lead - P).toNat).toNat else rd lead ((pe + bln lead - P).toNat - pe).toNat more)
theorem two_pow_le {a b : Nat} (h : a ≤ b) : 2 ^ a ≤ 2 ^ b := Nat.pow_le_pow_right (by decide) h
/-- the unit of a size that lies in [lead, lead + 1) * 2^u / 2^v -/
theorem ju_of {P a b lead u v : Nat} {pe : Int} (hb : 0 < b) (hl : lead ≠ 0) (hpe : pe = (u : Int) - v) (h1 : lead * 2 ^ u * b ≤ a * 2 ^ v) (h2 : a * 2 ^ v < (lead + 1) * 2 ^ u * b) : ju P (a / b) = (pe + bln lead - P).toNat := by
  have l1 := bln_le hl
  have l2 := bln_lt lead
  have l0 := bln_pos hl
  -- a / b below 2^(bln lead + u - v), and not below half of it
  have up : a * 2 ^ v < 2 ^ (bln lead + u) * b := by
    refine Nat.lt_of_lt_of_le h2 ?_
    rw [Nat.pow_add]
    exact Nat.mul_le_mul_right b (Nat.mul_le_mul_right _ l2)
  have lo : 2 ^ (bln lead - 1 + u) * b ≤ a * 2 ^ v := by
    refine Nat.le_trans ?_ h1
    rw [Nat.pow_add]
    exact Nat.mul_le_mul_right b (Nat.mul_le_mul_right _ l1)
  unfold ju
  rcases Nat.lt_or_ge (bln lead + u) (v + 1) with hv | hv
  · -- the size is below 1
    have : a / b = 0 := by
      refine Nat.div_eq_of_lt ?_
      have h3 : 2 ^ (bln lead + u) ≤ 2 ^ v := two_pow_le (by omega)
      have h4 : a * 2 ^ v < b * 2 ^ v := Nat.lt_of_lt_of_le up (by rw [Nat.mul_comm]; exact Nat.mul_le_mul_left b h3)
      exact Nat.lt_of_mul_lt_mul_right h4
    rw [this, bln_0]; omega
  · have g1 : a / b < 2 ^ (bln lead + u - v) := by
      rw [Nat.div_lt_iff_lt_mul hb]
      have e : 2 ^ (bln lead + u) = 2 ^ (bln lead + u - v) * 2 ^ v := by rw [← Nat.pow_add]; congr 1; omega
      rw [e] at up
      have h4 : a * 2 ^ v < 2 ^ (bln lead + u - v) * b * 2 ^ v := by
        rw [Nat.mul_assoc, Nat.mul_comm b, ← Nat.mul_assoc]; exact up
      exact Nat.lt_of_mul_lt_mul_right h4
    have g2 : 2 ^ (bln lead - 1 + u - v) ≤ a / b := by
      rw [Nat.le_div_iff_mul_le hb]
      have e : 2 ^ (bln lead - 1 + u) = 2 ^ (bln lead - 1 + u - v) * 2 ^ v := by rw [← Nat.pow_add]; congr 1; omega
      rw [e] at lo
      have h4 : 2 ^ (bln lead - 1 + u - v) * b * 2 ^ v ≤ a * 2 ^ v := by
        rw [Nat.mul_assoc, Nat.mul_comm b, ← Nat.mul_assoc]; exact lo
      exact Nat.le_of_mul_le_mul_right h4 (Nat.two_pow_pos v)
    have e1 : bln lead - 1 + u - v + 1 = bln lead + u - v := by omega
    have := bln_eq g2 (by rw [e1]; exact g1)
    rw [this]; omega
/-- what is cut off with 'more' behind it is rounded as the whole is -/
theorem rn_kn {P Z a b lead u v : Nat} {pe : Int} {more : Bool} (hb : 0 < b) (hpe : pe = (u : Int) - v) (h1 : lead * 2 ^ u * b ≤ a * 2 ^ v) (h2 : a * 2 ^ v < (lead + 1) * 2 ^ u * b) (hm : more = true ↔ lead * 2 ^ u * b ≠ a * 2 ^ v) (hx : more = true → pe < ((pe + bln lead - P).toNat : Int)) : rn P Z a b = kn P Z lead pe more := by
  by_cases hl : lead = 0
  · subst hl
    unfold kn
    rw [if_pos rfl]
    rw [Nat.zero_add, Nat.one_mul] at h2
    rw [Nat.zero_mul, Nat.zero_mul] at hm
    have hz : 2 * a < b := by
      by_cases ha : a = 0
      · subst ha; omega
      · have hmt : more = true := hm.mpr (fun h => ha (by
          have := Nat.two_pow_pos v
          rcases Nat.mul_eq_zero.mp h.symm with z | z
          · exact z
          · omega))
        have hp := hx hmt
        rw [bln_0] at hp
        have huv : u + 1 ≤ v := by omega
        have e : 2 ^ v = 2 ^ (v - u) * 2 ^ u := by rw [← Nat.pow_add]; congr 1; omega
        have h3 : a * 2 ^ (v - u) * 2 ^ u < b * 2 ^ u := by
          rw [Nat.mul_assoc, ← e, Nat.mul_comm b]; exact h2
        have h4 := Nat.lt_of_mul_lt_mul_right h3
        have h5 : 2 ^ 1 ≤ 2 ^ (v - u) := two_pow_le (by omega)
        have h6 : a * 2 ≤ a * 2 ^ (v - u) := Nat.mul_le_mul_left a h5
        omega
    have hd : a / b = 0 := Nat.div_eq_of_lt (by omega)
    unfold rn
    have hj : ju P (a / b) = 0 := by unfold ju; rw [hd, bln_0]; omega
    rw [hj, if_neg (by omega), Nat.zero_mul, Nat.zero_add, Nat.pow_zero, Nat.mul_one]
    rw [rne_at (q := 0) (r := a) (by omega) (by omega)]
    rw [if_neg (by omega)]
  · have hj := ju_of (P := P) hb hl hpe h1 h2
    unfold rn kn
    rw [hj, if_neg hl]
    generalize (pe + (bln lead : Int) - P).toNat = j at hx ⊢
    by_cases hz : Z < j
    · rw [if_pos hz, if_pos hz]
    · rw [if_neg hz, if_neg hz]
      congr 1
      have e1 : rne a (b * 2 ^ j) = rne (a * 2 ^ v) (b * 2 ^ (j + v)) := by
        rw [Nat.pow_add, ← Nat.mul_assoc, rne_scale (Nat.two_pow_pos v)]
      rw [e1]
      by_cases hjp : (j : Int) ≤ pe
      · rw [if_pos hjp]
        have hmf : ¬ more = true := fun h => by have := hx h; omega
        have hea : lead * 2 ^ u * b = a * 2 ^ v := by
          by_cases h : lead * 2 ^ u * b = a * 2 ^ v
          · exact h
          · exact absurd (hm.mpr h) hmf
        have e2 : u = (pe - j).toNat + (j + v) := by omega
        have e3 : a * 2 ^ v = lead * 2 ^ (pe - j).toNat * (b * 2 ^ (j + v)) := by
          rw [← hea]
          conv => lhs; rw [e2]
          rw [Nat.pow_add, Nat.mul_comm b, ← Nat.mul_assoc, ← Nat.mul_assoc]
        rw [e3, rne_exact (Nat.mul_pos hb (Nat.two_pow_pos _))]
      · rw [if_neg hjp]
        have e2 : j + v = u + ((j : Int) - pe).toNat := by omega
        have e3 : b * 2 ^ (j + v) = (2 ^ u * b) * 2 ^ ((j : Int) - pe).toNat := by
          rw [e2, Nat.pow_add, Nat.mul_comm b, Nat.mul_assoc, Nat.mul_comm _ b, ← Nat.mul_assoc]
        rw [e3]
        refine rne_rd (by omega) ?_ ?_ ?_
        · rw [← Nat.mul_assoc]; exact h1
        · rw [← Nat.mul_assoc]; exact h2
        · rw [← Nat.mul_assoc]; exact hm
