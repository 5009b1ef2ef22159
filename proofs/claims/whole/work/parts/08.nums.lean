/-! NUMBERS OF THE MACHINE: signed ints as whole numbers, limbs as longs -/
def zI (z : Int) : Int32 := Int32.ofInt z
theorem zI_nI (n : Nat) : zI (n : Int) = nI n := Int32.ofInt_eq_ofNat
theorem zI_add (a b : Int) : zI a + zI b = zI (a + b) := (Int32.ofInt_add a b).symm
theorem zI_sub (a b : Int) : zI a - zI b = zI (a - b) := (Int32.ofInt_sub a b).symm
theorem zI_mul (a b : Int) : zI a * zI b = zI (a * b) := (Int32.ofInt_mul a b).symm
theorem zI_neg (a : Int) : -zI a = zI (-a) := (Int32.ofInt_neg a).symm
theorem zI_ti {a : Int} (h1 : -2147483648 ≤ a) (h2 : a < 2147483648) : (zI a).toInt = a := Int32.toInt_ofInt_of_le (by omega) (by omega)
theorem zI_lt {a b : Int} (h1 : -2147483648 ≤ a) (h2 : a < 2147483648) (h3 : -2147483648 ≤ b) (h4 : b < 2147483648) : zI a < zI b ↔ a < b := by
  rw [Int32.lt_iff_toInt_lt, zI_ti h1 h2, zI_ti h3 h4]
theorem zI_le {a b : Int} (h1 : -2147483648 ≤ a) (h2 : a < 2147483648) (h3 : -2147483648 ≤ b) (h4 : b < 2147483648) : zI a ≤ zI b ↔ a ≤ b := by
  rw [Int32.le_iff_toInt_le, zI_ti h1 h2, zI_ti h3 h4]
theorem zI_eq {a b : Int} (h1 : -2147483648 ≤ a) (h2 : a < 2147483648) (h3 : -2147483648 ≤ b) (h4 : b < 2147483648) : zI a = zI b ↔ a = b := by
  constructor
  · intro h
    have := congrArg Int32.toInt h
    rwa [zI_ti h1 h2, zI_ti h3 h4] at this
  · intro h; rw [h]
theorem zI_of (x : Int32) : ∃ z : Int, -2147483648 ≤ z ∧ z < 2147483648 ∧ x = zI z := by
  refine ⟨x.toInt, ?_, ?_, (Int32.ofInt_toInt x).symm⟩
  · have := x.le_toInt; omega
  · have := x.toInt_lt; omega
theorem zI_l {n : Nat} (h : n < 2147483648) : (zI (n : Int)).toInt64 = lN n := by rw [zI_nI]; exact nI_l h
/-- a limb as a long -/
theorem lim (x : Int32) : x.toInt64 &&& 4294967295 = lN (w32 x) := by
  apply Int64.toBitVec_inj.mp
  apply BitVec.eq_of_toNat_eq
  rw [Int64.toBitVec_and, BitVec.toNat_and]
  show (x.toBitVec.signExtend 64).toNat &&& (2 ^ 32 - 1) = (BitVec.ofNat 64 (w32 x)).toNat
  rw [Nat.and_two_pow_sub_one_eq_mod, BitVec.toNat_signExtend, BitVec.toNat_ofNat]
  have h := x.toBitVec.isLt
  have e : (x.toBitVec.setWidth 64).toNat = x.toBitVec.toNat := by
    rw [BitVec.toNat_setWidth]; exact Nat.mod_eq_of_lt (by omega)
  rw [e]
  unfold w32
  by_cases hm : x.toBitVec.msb = true
  · rw [if_pos hm]; omega
  · rw [if_neg hm]; omega
/-- a long that isn't below 0 -/
theorem lN_pos {n : Nat} (h : n < 9223372036854775808) : ¬ lN n < 0 := by
  rw [Int64.lt_iff_toInt_lt, pk_lT h]
  show ¬ (n : Int) < 0
  omega
theorem lN_0 : lN 0 = 0 := rfl
theorem lN_ne0 {n : Nat} (h : n < 18446744073709551616) : lN n = 0 ↔ n = 0 := by
  constructor
  · intro z
    have h1 := congrArg (fun y : Int64 => y.toBitVec.toNat) z
    have h2 : (lN n).toBitVec.toNat = n := by show (BitVec.ofNat 64 n).toNat = n; rw [BitVec.toNat_ofNat]; exact Nat.mod_eq_of_lt h
    have h1 : (lN n).toBitVec.toNat = (0 : Int64).toBitVec.toNat := h1
    rw [h2] at h1
    exact h1
  · intro z; rw [z]; rfl
theorem nI_dec {k : Nat} (h : 0 < k) : nI k - 1 = nI (k - 1) := by
  obtain ⟨j, rfl⟩ : ∃ j, k = j + 1 := ⟨k - 1, by omega⟩
  rw [Nat.add_sub_cancel]; exact nI_pred j
theorem nI_le0 {k : Nat} (h : k < 2147483648) : nI k ≤ 0 ↔ k = 0 := by
  rw [Int32.le_iff_toInt_le, nI_toInt h]
  show (k : Int) ≤ 0 ↔ k = 0
  omega
theorem nI_eq0 {k : Nat} (h : k < 4294967296) : nI k = 0 ↔ k = 0 := by
  constructor
  · intro z
    have := congrArg w32 z
    rw [w32_nI h, w32_0] at this
    exact this
  · intro z; rw [z]; rfl
theorem nI_mod (n : Nat) : nI (n % 4294967296) = nI n := by
  apply w32_inj
  rw [w32_nI (Nat.mod_lt _ (by decide))]
  show n % 4294967296 = (BitVec.ofNat 32 n).toNat
  rw [BitVec.toNat_ofNat]
theorem lN_wrap (n : Nat) : lN (n + 18446744073709551616) = lN n := by
  apply Int64.toBitVec_inj.mp
  apply BitVec.eq_of_toNat_eq
  show (BitVec.ofNat 64 _).toNat = (BitVec.ofNat 64 _).toNat
  rw [BitVec.toNat_ofNat, BitVec.toNat_ofNat]; omega
theorem nI_same {a b : Nat} (h : a % 4294967296 = b % 4294967296) : nI a = nI b := by rw [← nI_mod a, ← nI_mod b, h]
/-- a limb less another and a borrow: what is left, what is borrowed -/
theorem sub_bits {w t b : Nat} (hw : w < 4294967296) (ht : t < 4294967296) (hb : b ≤ 1) : ∃ x c : Nat, x < 4294967296 ∧ c ≤ 1 ∧ w + c * 4294967296 = x + t + b ∧ (lN w - lN t - lN b).toInt32 = nI x ∧ ((lN w - lN t - lN b).toUInt64 >>> ((63 : Int32).toInt64.toUInt64 &&& Int64.toUInt64 63)).toInt64 = lN c := by
  rcases Nat.lt_or_ge w (t + b) with h | h
  · refine ⟨w + 4294967296 - t - b, 1, by omega, by omega, by omega, ?_⟩
    have e : lN w - lN t - lN b = lN (w + 18446744073709551616 - t - b) := by
      rw [← lN_wrap w, lN_sub (by omega), lN_sub (by omega)]
    rw [e]
    constructor
    · rw [lN_i]; exact nI_same (by omega)
    · have h2 := wb_shr (n := w + 18446744073709551616 - t - b) (k := 63) (by omega) (by decide)
      have e3 : (w + 18446744073709551616 - t - b) / 2 ^ 63 = 1 := by omega
      rw [e3] at h2
      exact h2
  · refine ⟨w - t - b, 0, by omega, by omega, by omega, ?_⟩
    have e : lN w - lN t - lN b = lN (w - t - b) := by
      rw [lN_sub (by omega), lN_sub (by omega)]
    rw [e]
    constructor
    · rw [lN_i]
    · have h2 := wb_shr (n := w - t - b) (k := 63) (by omega) (by decide)
      have e3 : (w - t - b) / 2 ^ 63 = 0 := by omega
      rw [e3] at h2
      exact h2
theorem nI_dn {k : Nat} (h : 0 < k) : nI k - 1 + Int32.ofInt (-1) = nI (k - 1) - 1 := by
  rw [nI_dec h, Int32.sub_eq_add_neg]; rfl
theorem nI_m1lt {k : Nat} (h : k < 2147483648) : nI k - 1 < 0 ↔ k = 0 := by
  cases k with
  | zero => exact iff_of_true (by decide) rfl
  | succ k =>
    rw [nI_pred]
    exact iff_of_false (nI_pos (by omega)) (by omega)
/-- limbs of which none is looked at from n on -/
def ext0 (o : Nat → Int32) (n : Nat) : Nat → Int32 := fun j => if j < n then o j else 0
theorem ext0_in {o : Nat → Int32} {n j : Nat} (h : j < n) : ext0 o n j = o j := if_pos h
theorem ext0_out {o : Nat → Int32} {n j : Nat} (h : n ≤ j) : ext0 o n j = 0 := if_neg (by omega)
theorem bv_ext0 {o : Nat → Int32} {n : Nat} : ∀ k, n ≤ k → bv (ext0 o n) k = bv o n := by
  intro k
  induction k with
  | zero => intro h; have : n = 0 := by omega
            subst this; rfl
  | succ k ih =>
    intro h
    rcases Nat.lt_or_ge k n with g | g
    · have : n = k + 1 := by omega
      subst this
      exact bv_congr (fun j hj => ext0_in hj)
    · rw [bv_s, ih g, ext0_out g, w32_0]; omega
