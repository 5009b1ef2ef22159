/-! THE OTHER CALLS, as numbers -/
def blB (i v : Nat) : Bool := decide (v / 2 ^ kB i % 2 = 1)
theorem bl_of {i v : Nat} {r : Int32} (h : (r = 1 ∨ r = 0) ∧ (r = 1 ↔ blN i v)) : r = bI (blB i v) := by
  unfold blB
  by_cases hb : blN i v
  · rw [decide_eq_true (show v / 2 ^ kB i % 2 = 1 from hb)]; exact h.2.mpr hb
  · rw [decide_eq_false (show ¬ v / 2 ^ kB i % 2 = 1 from hb)]
    exact h.1.elim (fun z => absurd (h.2.mp z) hb) id
/-- a number of kind i that isn't beyond all: so many units of two to a power -/
def ldM (i s : Nat) : Nat := if s / 2 ^ (kP i - 1) = 0 then s % 2 ^ (kP i - 1) else s % 2 ^ (kP i - 1) + 2 ^ (kP i - 1)
def ldW (i s : Nat) : Int := if s / 2 ^ (kP i - 1) = 0 then -(kLw i : Int) else -(kLw i : Int) + (s / 2 ^ (kP i - 1) : Nat) - 1
def cvN (i k v : Nat) : Int64 := if kIN i < szN i v then kNon k else if szN i v = kIN i then sgd k (kInf k) (bI (blB i v)) else sgd k (lN (frn (kP k) (kZ k) (kLw k) (ldM i (szN i v)) 1 (ldW i (szN i v)))) (bI (blB i v))
theorem kn_frn {P Z Lw L : Nat} {w : Int} (hP : P ≤ 56) : kn P Z L (w + Lw) false = frn P Z Lw L 1 w := by
  have h := hex_end (P := P) (Z := Z) (Lw := Lw) (M := L) (L := L) (r := 0) (tl := 0) (w := w) (mo := false) hP (by rw [Nat.pow_zero, Nat.mul_one, Nat.add_zero]) (by decide) rfl (fun z => absurd rfl z)
  rw [h]; congr 1; omega
/-- the size of a long -/
def ua (a : Nat) : Nat := if a < 9223372036854775808 then a else 18446744073709551616 - a
def ngL (a : Nat) : Bool := decide (9223372036854775808 ≤ a)
theorem ng_l {a : Nat} (ha : a < 2 ^ 64) : lN a < 0 ↔ 9223372036854775808 ≤ a := by
  rw [Int64.lt_iff_toInt_lt]
  have h : (lN a).toInt = if a < 9223372036854775808 then (a : Int) else (a : Int) - 18446744073709551616 := by
    show (BitVec.ofNat 64 a).toInt = _
    rw [BitVec.toInt_eq_toNat_cond, BitVec.toNat_ofNat, Nat.mod_eq_of_lt (by omega)]
    split
    · rw [if_pos (by omega)]
    · rw [if_neg (by omega)]; rfl
  rw [h]
  show _ < (0 : Int) ↔ _
  split <;> omega
theorem neg_l {a : Nat} (ha : a < 2 ^ 64) : -lN a = lN (18446744073709551616 - a) := by
  have h1 : lN a + lN (18446744073709551616 - a) = 0 := by
    rw [lN_add, show a + (18446744073709551616 - a) = 0 + 18446744073709551616 by omega, lN_wrap]; rfl
  have h2 : lN (18446744073709551616 - a) = -lN a + (lN a + lN (18446744073709551616 - a)) := by rw [← Int64.add_assoc, Int64.add_left_neg, Int64.zero_add]
  rw [h2, h1, Int64.add_zero]
theorem ua_pos {a : Nat} (ha : a < 2 ^ 64) (h : a ≠ 0) : ua a ≠ 0 ∧ ua a < 2 ^ 64 ∧ bln (ua a) ≤ 2900 := by
  have h1 : ua a ≠ 0 ∧ ua a < 2 ^ 64 := by unfold ua; split <;> omega
  refine ⟨h1.1, h1.2, Nat.le_trans (bln_le_of h1.2) (by decide)⟩
def qtN (i a b : Nat) : Int64 := if b = 0 then (if a = 0 then kNon i else sgd i (kInf i) (bI (ngL a))) else if a = 0 then 0 else sgd i (lN (frn (kP i) (kZ i) (kLw i) (ua a) (ua b) 0)) (bI (ngL a != ngL b))
def cpN (i x y : Nat) : Int32 := if kIN i < szN i x ∨ kIN i < szN i y then 2 else if rkN i x = rkN i y then 0 else if rkN i x < rkN i y then -1 else 1
/-- characters written -/
def updN (T : Nat → Nat) (k c : Nat) : Nat → Nat := fun j => if j = k then c else T j
theorem tx_upd (T : Nat → Nat) (k c : Nat) : upd (tx T) k (nI c) = tx (updN T k c) := by
  funext j
  unfold upd tx updN
  split <;> rfl
def wT (T : Nat → Nat) (n x : Nat) : Nat → Nat → Nat
  | 0 => T
  | m + 1 => if byt x (7 - m) = 0 then wT T n x m else updN (wT T n x m) (n + cb x m) (byt x (7 - m))
theorem wT_b {T : Nat → Nat} {n x : Nat} (hT : ∀ j, T j < 256) : ∀ m j, wT T n x m j < 256 := by
  intro m
  induction m with
  | zero => exact hT
  | succ m ih =>
    intro j
    show (if byt x (7 - m) = 0 then wT T n x m else updN (wT T n x m) (n + cb x m) (byt x (7 - m))) j < 256
    split
    · exact ih j
    · unfold updN; split
      · exact byt_lt _ _
      · exact ih j
theorem wT_0 {T : Nat → Nat} {n x m : Nat} (h : byt x (7 - m) = 0) : wT T n x (m + 1) = wT T n x m ∧ cb x (m + 1) = cb x m := by
  constructor
  · show (if _ then _ else _) = _; rw [if_pos h]
  · show cb x m + (if byt x (7 - m) = 0 then 0 else 1) = _; rw [if_pos h]; rfl
theorem wT_1 {T : Nat → Nat} {n x m : Nat} (h : byt x (7 - m) ≠ 0) : wT T n x (m + 1) = updN (wT T n x m) (n + cb x m) (byt x (7 - m)) ∧ cb x (m + 1) = cb x m + 1 := by
  constructor
  · show (if _ then _ else _) = _; rw [if_neg h]
  · show cb x m + (if byt x (7 - m) = 0 then 0 else 1) = _; rw [if_neg h]
theorem cb_mono (x : Nat) {m k : Nat} (h : m ≤ k) : cb x m ≤ cb x k := by
  induction k with
  | zero => have : m = 0 := by omega
            subst this; exact Nat.le_refl _
  | succ k ih =>
    rcases Nat.lt_or_ge m (k + 1) with z | z
    · refine Nat.le_trans (ih (by omega)) ?_
      show cb x k ≤ cb x k + _
      omega
    · have : m = k + 1 := by omega
      subst this; exact Nat.le_refl _
def wrT (T : Nat → Nat) (n x : Nat) : Nat → Nat := if n + cb x 8 ≤ 2400 then wT T n x 8 else T
def wrN (n x : Nat) : Nat := if n + cb x 8 ≤ 2400 then n + cb x 8 else n
