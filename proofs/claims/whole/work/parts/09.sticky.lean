/-! WHERE NO HALF WAY LIES BETWEEN, the nearest number is the same; digits behind the last that matters -/
theorem ju_mono {P q q' : Nat} (h : q ≤ q') : ju P q ≤ ju P q' := by
  unfold ju
  by_cases hq : q = 0
  · rw [hq, bln_0]; omega
  · have h1 := bln_le hq
    have h2 : bln q - 1 < bln q' := lt_bln (Nat.le_trans h1 h)
    have := bln_pos hq
    omega
theorem rn_gap {P Z a a' b : Nat} (hb : 0 < b) (h : a ≤ a') (hno : ∀ n j : Nat, j ≤ Z → n ≤ 2 ^ (P + 1) → 2 * a ≤ n * 2 ^ j * b → ¬ n * 2 ^ j * b ≤ 2 * a') : rn P Z a b = rn P Z a' b := by
  have hq : a / b ≤ a' / b := Nat.div_le_div_right h
  by_cases hz : Z < ju P (a / b)
  · have hz' : Z < ju P (a' / b) := Nat.lt_of_lt_of_le hz (ju_mono hq)
    unfold rn
    rw [if_pos hz, if_pos hz']
  · obtain ⟨j, hj⟩ : ∃ j, j = ju P (a / b) := ⟨_, rfl⟩
    rw [← hj] at hz
    have hc : 0 < 2 ^ j * b := Nat.mul_pos (Nat.two_pow_pos j) hb
    obtain ⟨lead, hld⟩ : ∃ lead, lead = 2 * a / (2 ^ j * b) := ⟨_, rfl⟩
    have h1 : lead * (2 ^ j * b) ≤ 2 * a := by rw [hld]; exact Nat.div_mul_le_self _ _
    have h2 : 2 * a < (lead + 1) * (2 ^ j * b) := by rw [hld]; exact (Nat.div_lt_iff_lt_mul hc).mp (Nat.lt_succ_self _)
    have hq2 : a / b < 2 ^ (P + j) := by
      refine Nat.lt_of_lt_of_le (bln_lt _) (two_pow_le ?_)
      rw [hj]; unfold ju; omega
    have h3 : a < 2 ^ (P + j) * b := (Nat.div_lt_iff_lt_mul hb).mp hq2
    have h4 : lead < 2 ^ (P + 1) := by
      have e : 2 ^ (P + 1) * (2 ^ j * b) = 2 * (2 ^ (P + j) * b) := by
        rw [Nat.pow_add, Nat.pow_add, Nat.pow_one]
        rw [Nat.mul_comm (2 ^ P) 2, Nat.mul_assoc, ← Nat.mul_assoc (2 ^ P)]
      have h5 : lead * (2 ^ j * b) < 2 ^ (P + 1) * (2 ^ j * b) := by rw [e]; omega
      exact Nat.lt_of_mul_lt_mul_right h5
    have n1 : lead * 2 ^ j * b < 2 * a := by
      rcases Nat.lt_or_ge (lead * 2 ^ j * b) (2 * a) with z | z
      · exact z
      · exact absurd (by rw [Nat.mul_assoc]; omega) (hno lead j (by omega) (by omega) z)
    have n2 : 2 * a' < (lead + 1) * 2 ^ j * b := by
      have z := hno (lead + 1) j (by omega) (by omega) (by rw [Nat.mul_assoc]; omega)
      omega
    have hx : (j : Int) - 1 < (((j : Int) - 1 + bln lead - P).toNat : Int) := by
      rcases Nat.eq_zero_or_pos j with z | z
      · omega
      · have hql : 2 ^ (P + j - 1) ≤ a / b := by
          have hne : a / b ≠ 0 := by
            intro y
            rw [y] at hj; unfold ju at hj; rw [bln_0] at hj; omega
          have := bln_le hne
          have e : bln (a / b) = P + j := by rw [hj]; unfold ju; unfold ju at hj; omega
          rw [e] at this
          exact this
        have h5 : 2 ^ (P + j - 1) * b ≤ a := (Nat.le_div_iff_mul_le hb).mp hql
        have h6 : 2 ^ P * (2 ^ j * b) ≤ 2 * a := by
          have e : P + j = (P + j - 1) + 1 := by omega
          rw [← Nat.mul_assoc, ← Nat.pow_add, e, Nat.pow_succ, Nat.mul_assoc, Nat.mul_comm 2 b, ← Nat.mul_assoc]
          omega
        have h7 : 2 ^ P < lead + 1 := Nat.lt_of_mul_lt_mul_right (Nat.lt_of_le_of_lt h6 h2)
        have h8 : P < bln lead := lt_bln (by omega)
        omega
    have k1 : rn P Z a b = kn P Z lead ((j : Int) - 1) true := by
      refine rn_kn (u := j) (v := 1) hb (by omega) ?_ ?_ ?_ (fun _ => hx)
      · rw [Nat.pow_one]; omega
      · rw [Nat.pow_one, Nat.mul_assoc]; omega
      · rw [Nat.pow_one]; constructor
        · intro _; omega
        · intro _; rfl
    have k2 : rn P Z a' b = kn P Z lead ((j : Int) - 1) true := by
      refine rn_kn (u := j) (v := 1) hb (by omega) ?_ ?_ ?_ (fun _ => hx)
      · rw [Nat.pow_one]; omega
      · rw [Nat.pow_one]; omega
      · rw [Nat.pow_one]; constructor
        · intro _; omega
        · intro _; rfl
    rw [k1, k2]
/-- M * 10^q to the nearest number of a kind whose lowest unit is 2^-Lw -/
def dec (P Z Lw M : Nat) (q : Int) : Nat := rn P Z (M * 10 ^ q.toNat * 2 ^ Lw) (10 ^ (-q).toNat)
theorem ten_pos (n : Nat) : 0 < 10 ^ n := Nat.pow_pos (by decide)
theorem dec_at {P Z Lw M : Nat} {q : Int} (E : Nat) (hE : -q ≤ E) : dec P Z Lw M q = rn P Z (M * 10 ^ (q + E).toNat * 2 ^ Lw) (10 ^ E) := by
  unfold dec
  have h1 : (q + E).toNat = q.toNat + (E - (-q).toNat) := by omega
  have h2 : E = (-q).toNat + (E - (-q).toNat) := by omega
  have e1 : M * 10 ^ (q + E).toNat * 2 ^ Lw = M * 10 ^ q.toNat * 2 ^ Lw * 10 ^ (E - (-q).toNat) := by
    rw [h1, Nat.pow_add, ← Nat.mul_assoc, Nat.mul_assoc _ _ (2 ^ Lw), Nat.mul_comm _ (2 ^ Lw), ← Nat.mul_assoc]
  have e2 : 10 ^ E = 10 ^ (-q).toNat * 10 ^ (E - (-q).toNat) := by
    rw [← Nat.pow_add, ← h2]
  rw [e1, e2, rn_scale (ten_pos _)]
/-- no half way has so many digits -/
theorem no_half {P Z e md T n j kp kn : Nat} (hT : 10 ^ (md - 1) ≤ T) (N1 : 2 ^ (P + 1 + Z) ≤ 10 ^ (md - 1) * 2 ^ e) (N2 : 2 ^ (P + 1) * 5 ^ (e - 1) ≤ 2 * 10 ^ (md - 1)) (hj : j ≤ Z) (hn : n ≤ 2 ^ (P + 1)) (h1 : T * 10 ^ kp * 2 ^ e < n * 2 ^ j * 10 ^ kn) (h2 : n * 2 ^ j * 10 ^ kn < (T + 1) * 10 ^ kp * 2 ^ e) : False := by
  rcases Nat.lt_or_ge kp kn with hk | hk
  · obtain ⟨K, hK⟩ : ∃ K, kn = kp + K := ⟨kn - kp, by omega⟩
    have hp := ten_pos kp
    have g1 : T * 2 ^ e < n * 2 ^ j * 10 ^ K := by
      refine Nat.lt_of_mul_lt_mul_right (a := 10 ^ kp) ?_
      rw [Nat.mul_assoc, Nat.mul_comm (2 ^ e), ← Nat.mul_assoc, Nat.mul_assoc _ (10 ^ K), Nat.mul_comm (10 ^ K), ← Nat.pow_add, ← hK]
      exact h1
    have g2 : n * 2 ^ j * 10 ^ K < (T + 1) * 2 ^ e := by
      refine Nat.lt_of_mul_lt_mul_right (a := 10 ^ kp) ?_
      rw [Nat.mul_assoc (T + 1), Nat.mul_comm (2 ^ e), ← Nat.mul_assoc (T + 1), Nat.mul_assoc _ (10 ^ K), Nat.mul_comm (10 ^ K), ← Nat.pow_add, ← hK]
      exact h2
    have e10 : 10 ^ K = 5 ^ K * 2 ^ K := by rw [← Nat.mul_pow]
    have e1 : n * 2 ^ j * 10 ^ K = n * 5 ^ K * 2 ^ (j + K) := by
      rw [e10, Nat.pow_add, Nat.mul_assoc n, ← Nat.mul_assoc (2 ^ j), Nat.mul_comm (2 ^ j) (5 ^ K), Nat.mul_assoc (5 ^ K), ← Nat.mul_assoc n]
    rw [e1] at g1 g2
    rcases Nat.lt_or_ge (j + K) e with hs | hs
    · have e2 : 2 ^ e = 2 ^ (e - (j + K)) * 2 ^ (j + K) := by rw [← Nat.pow_add]; congr 1; omega
      have g3 : T * 2 ^ (e - (j + K)) < n * 5 ^ K := by
        refine Nat.lt_of_mul_lt_mul_right (a := 2 ^ (j + K)) ?_
        rw [Nat.mul_assoc, ← e2]; exact g1
      have g4 : 2 ^ 1 ≤ 2 ^ (e - (j + K)) := two_pow_le (by omega)
      have g5 : T * 2 ^ 1 ≤ T * 2 ^ (e - (j + K)) := Nat.mul_le_mul_left T g4
      have g6 : 5 ^ K ≤ 5 ^ (e - 1) := Nat.pow_le_pow_right (by decide) (by omega)
      have g7 : n * 5 ^ K ≤ 2 ^ (P + 1) * 5 ^ (e - 1) := Nat.mul_le_mul hn g6
      rw [Nat.pow_one] at g5
      omega
    · have e2 : 2 ^ (j + K) = 2 ^ (j + K - e) * 2 ^ e := by rw [← Nat.pow_add]; congr 1; omega
      rw [e2, ← Nat.mul_assoc] at g1 g2
      have g3 := Nat.lt_of_mul_lt_mul_right g1
      have g4 := Nat.lt_of_mul_lt_mul_right g2
      omega
  · obtain ⟨K, hK⟩ : ∃ K, kp = kn + K := ⟨kp - kn, by omega⟩
    have g1 : T * 10 ^ K * 2 ^ e < n * 2 ^ j := by
      refine Nat.lt_of_mul_lt_mul_right (a := 10 ^ kn) ?_
      have : T * 10 ^ K * 2 ^ e * 10 ^ kn = T * 10 ^ kp * 2 ^ e := by
        rw [hK, Nat.pow_add, Nat.mul_assoc _ (2 ^ e), Nat.mul_comm (2 ^ e), ← Nat.mul_assoc, Nat.mul_assoc T, Nat.mul_comm (10 ^ K)]
      rw [this]; exact h1
    have g2 : n * 2 ^ j ≤ 2 ^ (P + 1) * 2 ^ Z := Nat.mul_le_mul hn (two_pow_le hj)
    rw [← Nat.pow_add] at g2
    have g3 : 10 ^ (md - 1) * 2 ^ e ≤ T * 10 ^ K * 2 ^ e := by
      refine Nat.mul_le_mul_right _ (Nat.le_trans hT ?_)
      exact Nat.le_mul_of_pos_right T (ten_pos K)
    omega
/-- behind md digits a 1 stands for all the rest that isn't 0 -/
theorem dec_sticky {P Z Lw md T r t : Nat} {q : Int} (hT : 10 ^ (md - 1) ≤ T) (N1 : 2 ^ (P + 1 + Z) ≤ 10 ^ (md - 1) * 2 ^ (Lw + 1)) (N2 : 2 ^ (P + 1) * 5 ^ (Lw + 1 - 1) ≤ 2 * 10 ^ (md - 1)) (ht0 : 0 < t) (ht : t < 10 ^ r) : dec P Z Lw (T * 10 ^ r + t) q = dec P Z Lw (T * 10 + 1) (q + r - 1) := by
  obtain ⟨E, hE⟩ : ∃ E : Nat, E = q.natAbs + r + 2 := ⟨_, rfl⟩
  have hr : 0 < r := by
    rcases Nat.eq_zero_or_pos r with z | z
    · subst z; rw [Nat.pow_zero] at ht; omega
    · exact z
  rw [dec_at E (by omega), dec_at E (by omega)]
  obtain ⟨c, hc⟩ : ∃ c : Nat, c = (q + E).toNat := ⟨_, rfl⟩
  have e2 : (q + r - 1 + E).toNat = c + r - 1 := by omega
  rw [e2, ← hc]
  have hcp := ten_pos c
  have e3 : 10 ^ (c + r) = 10 ^ r * 10 ^ c := by rw [Nat.add_comm, Nat.pow_add]
  have e4 : 10 ^ (c + r) = 10 * 10 ^ (c + r - 1) := by
    have : c + r = (c + r - 1) + 1 := by omega
    rw [this, Nat.pow_succ, Nat.mul_comm]; rfl
  have hpp := ten_pos (c + r - 1)
  -- both lie between T and T + 1 times 10^(c + r)
  have x1 : T * 10 ^ (c + r) < (T * 10 ^ r + t) * 10 ^ c := by
    rw [e3, Nat.add_mul, Nat.mul_assoc]
    have := Nat.mul_pos ht0 hcp
    omega
  have x2 : (T * 10 ^ r + t) * 10 ^ c < (T + 1) * 10 ^ (c + r) := by
    have h : T * 10 ^ r + t < (T + 1) * 10 ^ r := by rw [Nat.add_mul, Nat.one_mul]; omega
    rw [e3, ← Nat.mul_assoc]
    exact Nat.mul_lt_mul_of_pos_right h hcp
  have x3 : T * 10 ^ (c + r) < (T * 10 + 1) * 10 ^ (c + r - 1) := by
    rw [e4, ← Nat.mul_assoc, Nat.add_mul, Nat.one_mul]; omega
  have x4 : (T * 10 + 1) * 10 ^ (c + r - 1) < (T + 1) * 10 ^ (c + r) := by
    rw [e4, ← Nat.mul_assoc]
    refine Nat.mul_lt_mul_of_pos_right ?_ hpp
    omega
  have h2 := Nat.two_pow_pos Lw
  have e5 : ∀ y : Nat, 2 * (y * 2 ^ Lw) = y * 2 ^ (Lw + 1) := fun y => by rw [Nat.pow_succ]; ac_rfl
  have gap : ∀ y y' : Nat, T * 10 ^ (c + r) < y → y ≤ y' → y' < (T + 1) * 10 ^ (c + r) → rn P Z (y * 2 ^ Lw) (10 ^ E) = rn P Z (y' * 2 ^ Lw) (10 ^ E) := by
    intro y y' hy hyy hy'
    refine rn_gap (ten_pos E) (Nat.mul_le_mul_right _ hyy) (fun n j hj hn z1 z2 => ?_)
    rw [e5] at z1 z2
    have hl : T * 10 ^ (c + r) * 2 ^ (Lw + 1) < y * 2 ^ (Lw + 1) := Nat.mul_lt_mul_of_pos_right hy (Nat.two_pow_pos _)
    have hu : y' * 2 ^ (Lw + 1) < (T + 1) * 10 ^ (c + r) * 2 ^ (Lw + 1) := Nat.mul_lt_mul_of_pos_right hy' (Nat.two_pow_pos _)
    exact no_half (kp := c + r) (kn := E) hT N1 N2 hj hn (by omega) (by omega)
  rcases Nat.le_total ((T * 10 ^ r + t) * 10 ^ c) ((T * 10 + 1) * 10 ^ (c + r - 1)) with h | h
  · exact gap _ _ x1 h x4
  · exact (gap _ _ x3 h x2).symm
theorem N1w : 2 ^ (53 + 1 + 2045) ≤ 10 ^ (770 - 1) * 2 ^ (1074 + 1) := by decide +kernel
theorem N2w : 2 ^ (53 + 1) * 5 ^ (1074 + 1 - 1) ≤ 2 * 10 ^ (770 - 1) := by decide +kernel
theorem N1n : 2 ^ (24 + 1 + 253) ≤ 10 ^ (115 - 1) * 2 ^ (149 + 1) := by decide +kernel
theorem N2n : 2 ^ (24 + 1) * 5 ^ (149 + 1 - 1) ≤ 2 * 10 ^ (115 - 1) := by decide +kernel
