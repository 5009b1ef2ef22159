/-! THE TWO KINDS: 0 is WIDE, 1 is NARROW -/
def kP (i : Nat) : Nat := if i = 0 then 53 else 24
def kZ (i : Nat) : Nat := if i = 0 then 2045 else 253
def kLw (i : Nat) : Nat := if i = 0 then 1074 else 149
def kB (i : Nat) : Nat := if i = 0 then 63 else 31
def kMd (i : Nat) : Nat := if i = 0 then 770 else 115
def kLo (i : Nat) : Nat := if i = 0 then 323 else 45
def kHi (i : Nat) : Nat := if i = 0 then 309 else 39
def kIN (i : Nat) : Nat := (kZ i + 2) * 2 ^ (kP i - 1)
theorem kf_P : ∀ i, i < 2 → (kF[0]).2.2.2.getD i 0 = nI (kP i) := by decide +kernel
theorem kf_L : ∀ i, i < 2 → (kF[1]).2.2.2.getD i 0 = zI (-(kLw i : Int)) := by decide +kernel
theorem kf_H : ∀ i, i < 2 → (kF[2]).2.2.2.getD i 0 = zI ((kZ i : Int) - kLw i) := by decide +kernel
theorem kf_M : ∀ i, i < 2 → (kF[3]).2.2.2.getD i 0 = nI (kMd i) := by decide +kernel
theorem kf_lo : ∀ i, i < 2 → (kF[4]).2.2.2.getD i 0 = zI (-(kLo i : Int)) := by decide +kernel
theorem kf_hi : ∀ i, i < 2 → (kF[5]).2.2.2.getD i 0 = zI (kHi i : Int) := by decide +kernel
theorem kf_I : ∀ i, i < 2 → kInf i = lN (kIN i) := by decide +kernel
theorem kf_S : ∀ i, i < 2 → kSign i = lN (2 ^ kB i) := by decide +kernel
theorem kf_S1 : ∀ i, i < 2 → kSign i - 1 = lN (2 ^ kB i - 1) := by decide +kernel
theorem kb_le : ∀ i, i < 2 → kB i < 64 := by decide
theorem kIN_lt : ∀ i, i < 2 → kIN i < 2 ^ kB i := by decide +kernel
theorem kIN_63 : ∀ i, i < 2 → kIN i < 9223372036854775808 := by decide +kernel
theorem kP_b : ∀ i, i < 2 → kP i ≤ 53 ∧ 24 ≤ kP i ∧ kZ i ≤ 2045 ∧ kLw i ≤ 1074 ∧ kZ i + kP i ≤ 2098 ∧ kMd i ≤ 770 ∧ 115 ≤ kMd i ∧ kLo i ≤ 323 ∧ kHi i ≤ 309 := by decide
/-- the size of a number of a kind; whether it is below 0; whether it is none; its sign put on -/
def szN (i v : Nat) : Nat := v % 2 ^ kB i
def blN (i v : Nat) : Prop := v / 2 ^ kB i % 2 = 1
def sgd (i : Nat) (X : Int64) (b : Int32) : Int64 := if b = 0 then X else X ||| kSign i
def bI (b : Bool) : Int32 := if b then 1 else 0
theorem bI_0 (b : Bool) : bI b = 0 ↔ b = false := by cases b <;> decide
theorem bI_of {r : Int32} (h : r = 1 ∨ r = 0) : ∃ b : Bool, r = bI b := by
  rcases h with h | h
  · exact ⟨true, h⟩
  · exact ⟨false, h⟩
theorem sz_l {i v : Nat} (hi : i < 2) (hv : v < 2 ^ 64) : lN v &&& (kSign i - 1) = lN (szN i v) := by
  rw [kf_S1 i hi]; exact wb_mask hv (kb_le i hi)
theorem szN_lt {i v : Nat} (hi : i < 2) : szN i v < 9223372036854775808 := by
  have h1 : szN i v < 2 ^ kB i := Nat.mod_lt _ (Nat.two_pow_pos _)
  have h2 : 2 ^ kB i ≤ 2 ^ 63 := two_pow_le (by have := kb_le i hi; omega)
  omega
theorem and_pow0 (v k : Nat) : v &&& 2 ^ k = 0 ↔ ¬ v / 2 ^ k % 2 = 1 := by
  have ht : v.testBit k = decide (v / 2 ^ k % 2 = 1) := Nat.testBit_eq_decide_div_mod_eq
  constructor
  · intro z h
    have h1 : (v &&& 2 ^ k).testBit k = true := by rw [Nat.testBit_and, ht, Nat.testBit_two_pow_self, decide_eq_true h]; rfl
    rw [z, Nat.zero_testBit] at h1
    exact absurd h1 (by decide)
  · intro h
    apply Nat.eq_of_testBit_eq
    intro j
    rw [Nat.testBit_and, Nat.zero_testBit]
    by_cases hj : k = j
    · subst hj; rw [ht, decide_eq_false h]; rfl
    · rw [Nat.testBit_two_pow_of_ne hj, Bool.and_false]
theorem bl_l {i v : Nat} (hi : i < 2) (hv : v < 2 ^ 64) : lN v &&& kSign i = 0 ↔ ¬ blN i v := by
  have hp : 2 ^ kB i < 2 ^ 64 := wb_lt2 (kb_le i hi)
  rw [kf_S i hi, wb_and hv hp, lN_ne0 (Nat.and_lt_two_pow (n := 64) _ hp), and_pow0]
  exact Iff.rfl
theorem k_unit {a L : Int} (h1 : -100000000 ≤ a) (h2 : a ≤ 100000000) (h3 : 0 ≤ L) (h4 : L ≤ 2000) : (if zI a < zI (-L) then zI (-L) else zI a) = zI (((a + L).toNat : Int) - L) := by
  by_cases h : a < -L
  · rw [if_pos ((zI_lt (by omega) (by omega) (by omega) (by omega)).mpr h)]; congr 1; omega
  · rw [if_neg (fun z => h ((zI_lt (by omega) (by omega) (by omega) (by omega)).mp z))]; congr 1; omega
theorem rd_lt {n d : Nat} {more : Bool} (hn : n < 9223372036854775808) (hd : 63 < d) : rd n d more = 0 := by
  have h1 : 2 ^ 63 ≤ 2 ^ (d - 1) := two_pow_le (by omega)
  have h2 : 2 ^ (d - 1) ≤ 2 ^ d := two_pow_le (by omega)
  unfold rd
  rw [Nat.mod_eq_of_lt (by omega), Nat.div_eq_of_lt (by omega), if_neg (by omega)]
theorem rest_l {n d : Nat} (hd : d < 64) : lN n - lN (n / 2 ^ d) <<< ((nI d).toInt64 &&& 63) = lN (n % 2 ^ d) := by
  rw [wb_shl _ hd, lN_sub (Nat.div_mul_le_self n _)]
  congr 1
  have := Nat.div_add_mod n (2 ^ d)
  rw [Nat.mul_comm] at this
  omega
theorem kn_0 {P Z : Nat} {pe : Int} {more : Bool} : kn P Z 0 pe more = 0 := by unfold kn; rw [if_pos rfl]
theorem kn_inf {P Z n J : Nat} {pe : Int} {more : Bool} (hn : n ≠ 0) (hJ : J = (pe + bln n - P).toNat) (h : Z < J) : kn P Z n pe more = (Z + 2) * 2 ^ (P - 1) := by
  unfold kn; rw [if_neg hn, ← hJ, if_pos h]
theorem kn_ex {P Z n J : Nat} {pe : Int} {more : Bool} (hn : n ≠ 0) (hJ : J = (pe + bln n - P).toNat) (h : ¬ Z < J) (h2 : (J : Int) ≤ pe) : kn P Z n pe more = J * 2 ^ (P - 1) + n * 2 ^ (pe - J).toNat := by
  unfold kn; rw [if_neg hn, ← hJ, if_neg h, if_pos h2]
theorem kn_rd {P Z n J : Nat} {pe : Int} {more : Bool} (hn : n ≠ 0) (hJ : J = (pe + bln n - P).toNat) (h : ¬ Z < J) (h2 : ¬ (J : Int) ≤ pe) : kn P Z n pe more = J * 2 ^ (P - 1) + rd n (J - pe).toNat more := by
  unfold kn; rw [if_neg hn, ← hJ, if_neg h, if_neg h2]
theorem rd_up {n d : Nat} {more : Bool} (h : 2 ^ (d - 1) < n % 2 ^ d ∨ (n % 2 ^ d = 2 ^ (d - 1) ∧ (more = true ∨ (n / 2 ^ d) % 2 = 1))) : rd n d more = n / 2 ^ d + 1 := by unfold rd; rw [if_pos h]
theorem rd_dn {n d : Nat} {more : Bool} (h : ¬ (2 ^ (d - 1) < n % 2 ^ d ∨ (n % 2 ^ d = 2 ^ (d - 1) ∧ (more = true ∨ (n / 2 ^ d) % 2 = 1)))) : rd n d more = n / 2 ^ d := by unfold rd; rw [if_neg h]
