/-! WHOLE NUMBERS IN LIMBS of 32 bits, the lowest first -/
def w32 (x : Int32) : Nat := x.toBitVec.toNat
theorem w32_lt (x : Int32) : w32 x < 4294967296 := x.toBitVec.isLt
theorem w32_nI {n : Nat} (h : n < 4294967296) : w32 (nI n) = n := pk_tn h
theorem w32_0 : w32 0 = 0 := rfl
theorem w32_inj {x y : Int32} (h : w32 x = w32 y) : x = y := Int32.toBitVec_inj.mp (BitVec.eq_of_toNat_eq h)
theorem nI_w32 (x : Int32) : nI (w32 x) = x := w32_inj (w32_nI (w32_lt x))
theorem w32_ne {x : Int32} (h : x ≠ 0) : w32 x ≠ 0 := fun z => h (w32_inj (by rw [z, w32_0]))
/-- 2^(32 n) -/
def pw (n : Nat) : Nat := 4294967296 ^ n
theorem pw_s (n : Nat) : pw (n + 1) = pw n * 4294967296 := Nat.pow_succ 4294967296 n
theorem pw_0 : pw 0 = 1 := rfl
theorem pw_pos (n : Nat) : 0 < pw n := Nat.pow_pos (by decide)
theorem pw_le {a b : Nat} (h : a ≤ b) : pw a ≤ pw b := Nat.pow_le_pow_right (by decide) h
theorem pw_add (a b : Nat) : pw (a + b) = pw a * pw b := Nat.pow_add _ _ _
theorem pw_2 (n : Nat) : pw n = 2 ^ (32 * n) := by unfold pw; rw [Nat.pow_mul]
def bv (f : Nat → Int32) : Nat → Nat
  | 0 => 0
  | n + 1 => bv f n + w32 (f n) * pw n
theorem bv_0 (f : Nat → Int32) : bv f 0 = 0 := rfl
theorem bv_s (f : Nat → Int32) (n : Nat) : bv f (n + 1) = bv f n + w32 (f n) * pw n := rfl
theorem bv_congr {f g : Nat → Int32} {n : Nat} (h : ∀ j, j < n → f j = g j) : bv f n = bv g n := by
  induction n with
  | zero => rfl
  | succ n ih => rw [bv_s, bv_s, ih (fun j hj => h j (by omega)), h n (by omega)]
theorem bv_lt (f : Nat → Int32) (n : Nat) : bv f n < pw n := by
  induction n with
  | zero => exact Nat.one_pos
  | succ n ih =>
    rw [bv_s, pw_s]
    have h1 : (w32 (f n) + 1) * pw n ≤ 4294967296 * pw n := Nat.mul_le_mul_right _ (w32_lt (f n))
    rw [Nat.add_mul, Nat.one_mul] at h1
    rw [Nat.mul_comm (pw n)]; omega
theorem bv_upd {f : Nat → Int32} {n k : Nat} {x : Int32} (h : n ≤ k) : bv (upd f k x) n = bv f n := bv_congr (fun j hj => pk_un (by omega))
theorem bv_ge {f : Nat → Int32} {n : Nat} (h : f n ≠ 0) : pw n ≤ bv f (n + 1) := by
  rw [bv_s]
  have h1 : 1 * pw n ≤ w32 (f n) * pw n := Nat.mul_le_mul_right _ (Nat.pos_of_ne_zero (w32_ne h))
  omega
/-- n limbs f of 96 hold V, and the highest of them isn't 0 -/
def isB (f : Nat → Int32) (n V : Nat) : Prop := bv f n = V ∧ n ≤ 96 ∧ (n = 0 ∨ f (n - 1) ≠ 0)
theorem isB_lt {f : Nat → Int32} {n V : Nat} (h : isB f n V) : V < pw n := by rw [← h.1]; exact bv_lt f n
theorem isB_ge {f : Nat → Int32} {n V : Nat} (h : isB f (n + 1) V) : pw n ≤ V := by
  rw [← h.1]
  rcases h.2.2 with z | z
  · omega
  · exact bv_ge z
theorem isB_0 {f : Nat → Int32} {n V : Nat} (h : isB f n V) : n = 0 ↔ V = 0 := by
  constructor
  · intro z; subst z; exact h.1.symm
  · intro z
    cases n with
    | zero => rfl
    | succ n =>
      have := isB_ge h
      have := pw_pos n
      omega
theorem pw_lt_iff {a b : Nat} : pw a < pw b ↔ a < b := Nat.pow_lt_pow_iff_right (by decide)
/-- the number of limbs is told by the number -/
theorem isB_le {f g : Nat → Int32} {n k V U : Nat} (h : isB f n V) (h2 : isB g k U) (hVU : V ≤ U) : n ≤ k := by
  cases n with
  | zero => omega
  | succ n =>
    have h3 := isB_ge h
    have h4 := isB_lt h2
    have h5 : pw n < pw k := by omega
    have := pw_lt_iff.mp h5
    omega
theorem isB_n {f : Nat → Int32} {n V k : Nat} (h : isB f n V) (hV : V < pw k) : n ≤ k := by
  cases n with
  | zero => omega
  | succ n =>
    have h3 := isB_ge h
    have h5 : pw n < pw k := by omega
    have := pw_lt_iff.mp h5
    omega
/-- a step of times and plus -/
theorem tp_step {f g : Nat → Int32} {i k m cy : Nat} (hg : ∀ j, i ≤ j → g j = f j) (h : bv g i + cy * pw i = bv f i * k + m) :
    bv (upd g i (nI ((w32 (g i) * k + cy) % 4294967296))) (i + 1) + (w32 (g i) * k + cy) / 4294967296 * pw (i + 1) = bv f (i + 1) * k + m := by
  rw [bv_s, bv_upd (Nat.le_refl i), pk_us, w32_nI (Nat.mod_lt _ (by decide)), bv_s, ← hg i (Nat.le_refl i), pw_s]
  generalize hT : w32 (g i) * k + cy = T
  have e1 : T = T / 4294967296 * 4294967296 + T % 4294967296 := by omega
  have e2 : T * pw i = T / 4294967296 * (pw i * 4294967296) + T % 4294967296 * pw i := by
    conv => lhs; rw [e1]
    rw [Nat.add_mul, Nat.mul_assoc, Nat.mul_comm 4294967296]
  have e3 : T * pw i = w32 (g i) * k * pw i + cy * pw i := by rw [← hT, Nat.add_mul]
  have e4 : (bv f i + w32 (g i) * pw i) * k = bv f i * k + w32 (g i) * k * pw i := by
    rw [Nat.add_mul, Nat.mul_assoc, Nat.mul_comm (pw i), ← Nat.mul_assoc]
  rw [e4]
  omega
theorem tp_cy {w k cy : Nat} (hw : w < 4294967296) (hk : k < 2147483648) (hc : cy < 2147483648) : (w * k + cy) / 4294967296 < 2147483648 ∧ w * k + cy < 9223372036854775808 := by
  have h1 : w * k ≤ 4294967295 * 2147483647 := Nat.mul_le_mul (by omega) (by omega)
  omega
/-- the end of times and plus: a limb more, or none -/
theorem tp_end {f g : Nat → Int32} {n k m cy V : Nat} (hB : isB f n V) (hk : 0 < k) (h : bv g n + cy * pw n = V * k + m) (hc : cy < 4294967296) (hfit : V * k + m < pw 96) :
    (cy = 0 → isB g n (V * k + m)) ∧ (cy ≠ 0 → n < 96 ∧ isB (upd g n (nI cy)) (n + 1) (V * k + m)) := by
  constructor
  · intro z
    subst z
    rw [Nat.zero_mul, Nat.add_zero] at h
    refine ⟨h, hB.2.1, ?_⟩
    cases n with
    | zero => exact Or.inl rfl
    | succ n =>
      refine Or.inr (fun z => ?_)
      rw [Nat.add_sub_cancel] at z
      rw [bv_s, z, w32_0, Nat.zero_mul, Nat.add_zero] at h
      have h1 := isB_ge hB
      have h2 := bv_lt g n
      have h3 : V * 1 ≤ V * k := Nat.mul_le_mul_left V hk
      omega
  · intro z
    have h1 : 1 * pw n ≤ cy * pw n := Nat.mul_le_mul_right _ (Nat.pos_of_ne_zero z)
    have h2 : pw n < pw 96 := by omega
    have h3 := pw_lt_iff.mp h2
    refine ⟨h3, ?_, by omega, Or.inr ?_⟩
    · rw [bv_s, bv_upd (Nat.le_refl n), pk_us, w32_nI hc]; exact h
    · rw [Nat.add_sub_cancel, pk_us]
      intro y
      have := congrArg w32 y
      rw [w32_nI hc, w32_0] at this
      exact z this
/-- a step of taking away: b taken and borrowed; x is left, c borrowed from the next -/
theorem sb_step {f g o : Nat → Int32} {i b x c : Nat} (t : Nat) (hg : ∀ j, i ≤ j → g j = f j) (hx : x < 4294967296) (h : bv g i + bv o i = bv f i + b * pw i) (ho : t = w32 (o i)) (e : w32 (g i) + c * 4294967296 = x + t + b) :
    bv (upd g i (nI x)) (i + 1) + bv o (i + 1) = bv f (i + 1) + c * pw (i + 1) := by
  rw [bv_s, bv_upd (Nat.le_refl i), pk_us, w32_nI hx, bv_s, bv_s, ← hg i (Nat.le_refl i), ← ho, pw_s]
  have e2 : (w32 (g i) + c * 4294967296) * pw i = (x + t + b) * pw i := by rw [e]
  rw [Nat.add_mul, Nat.add_mul, Nat.add_mul, Nat.mul_assoc c, Nat.mul_comm 4294967296] at e2
  omega
/-- two numbers of as many limbs, of which those above i are the same: the limbs at i decide -/
theorem cp_at {f g : Nat → Int32} {n i : Nat} (hi : i < n) (he : ∀ j, i < j → j < n → f j = g j) (hl : w32 (g i) < w32 (f i)) : bv g n < bv f n := by
  induction n with
  | zero => omega
  | succ n ih =>
    rcases Nat.lt_or_ge i n with h | h
    · rw [bv_s, bv_s, he n h (by omega)]
      have := ih h (fun j h1 h2 => he j h1 (by omega))
      omega
    · have : i = n := by omega
      subst this
      rw [bv_s, bv_s]
      have h1 := bv_lt g i
      have h2 : (w32 (g i) + 1) * pw i ≤ w32 (f i) * pw i := Nat.mul_le_mul_right _ hl
      rw [Nat.add_mul, Nat.one_mul] at h2
      omega
theorem cp_n {f g : Nat → Int32} {n k V U : Nat} (h : isB f n V) (h2 : isB g k U) (hn : k < n) : U < V := by
  rcases Nat.lt_or_ge U V with z | z
  · exact z
  · have := isB_le h h2 z
    omega
/-- limbs that are 0 at the top may go -/
theorem dz_step {f : Nat → Int32} {n : Nat} (h : f n = 0) : bv f (n + 1) = bv f n := by rw [bv_s, h, w32_0]; omega
/-- limb k of a number of n limbs that is moved up by p bits, p below 32 -/
def sh_hi (f : Nat → Int32) (n k : Nat) : Nat := if k < n then w32 (f k) else 0
def sh_lo (f : Nat → Int32) (k : Nat) : Nat := if 0 < k then w32 (f (k - 1)) else 0
def sh_nw (f : Nat → Int32) (n p k : Nat) : Nat := (sh_hi f n k * 4294967296 + sh_lo f k) * 2 ^ p / 4294967296 % 4294967296
def sh_f (f : Nat → Int32) (n p : Nat) : Nat → Int32 := fun k => nI (sh_nw f n p k)
theorem sh_nw_eq {f : Nat → Int32} {n p k : Nat} (hp : p < 32) : sh_nw f n p k = sh_hi f n k * 2 ^ p % 4294967296 + sh_lo f k * 2 ^ p / 4294967296 := by
  unfold sh_nw
  have hlo : sh_lo f k < 4294967296 := by
    unfold sh_lo
    split
    · exact w32_lt _
    · decide
  obtain ⟨q, hq⟩ : ∃ q, q = 2 ^ p := ⟨_, rfl⟩
  have hq0 : 0 < q := by rw [hq]; exact Nat.two_pow_pos p
  have hqd : q * 2 ^ (32 - p) = 4294967296 := by rw [hq, ← Nat.pow_add]; have : p + (32 - p) = 32 := by omega
                                                 rw [this]
  rw [← hq]
  have e1 : (sh_hi f n k * 4294967296 + sh_lo f k) * q = sh_lo f k * q + 4294967296 * (sh_hi f n k * q) := by
    rw [Nat.add_mul, Nat.add_comm, Nat.mul_assoc, Nat.mul_left_comm]
  rw [e1, Nat.add_mul_div_left _ _ (by decide)]
  have h1 : sh_lo f k * q / 4294967296 < q := by
    rw [Nat.div_lt_iff_lt_mul (by decide), Nat.mul_comm q]
    exact Nat.mul_lt_mul_of_pos_right hlo hq0
  -- the part from above is a multiple of q below 2^32
  obtain ⟨t, ht⟩ : ∃ t, sh_hi f n k * q % 4294967296 = t * q := by
    refine ⟨sh_hi f n k % 2 ^ (32 - p), ?_⟩
    rw [← hqd, Nat.mul_comm q, Nat.mul_mod_mul_right]
  have h2 : sh_hi f n k * q % 4294967296 < 4294967296 := Nat.mod_lt _ (by decide)
  have h3 : t < 2 ^ (32 - p) := by
    rw [ht, ← hqd, Nat.mul_comm q] at h2
    exact Nat.lt_of_mul_lt_mul_right h2
  have h4 : (t + 1) * q ≤ 2 ^ (32 - p) * q := Nat.mul_le_mul_right q h3
  rw [Nat.add_mul, Nat.one_mul, Nat.mul_comm (2 ^ (32 - p)) q, hqd] at h4
  rw [Nat.add_comm, Nat.add_mod, Nat.mod_eq_of_lt (show sh_lo f k * q / 4294967296 < 4294967296 by omega), ht, Nat.mod_eq_of_lt (by omega)]
theorem sh_sum {f : Nat → Int32} {n p : Nat} (hp : p < 32) : ∀ i, i ≤ n → bv (sh_f f n p) i + sh_lo f i * 2 ^ p / 4294967296 * pw i = bv f i * 2 ^ p := by
  intro i
  induction i with
  | zero => intro _; simp [bv_0, sh_lo]
  | succ i ih =>
    intro hi
    have h := ih (by omega)
    rw [bv_s, bv_s]
    have e0 : w32 (sh_f f n p i) = sh_nw f n p i := w32_nI (Nat.mod_lt _ (by decide))
    have e1 : sh_hi f n i = w32 (f i) := by unfold sh_hi; rw [if_pos (by omega)]
    have e2 : sh_lo f (i + 1) = w32 (f i) := by unfold sh_lo; rw [if_pos (by omega), Nat.add_sub_cancel]
    rw [e0, sh_nw_eq hp, e1, e2, pw_s]
    generalize hT : w32 (f i) * 2 ^ p = T
    generalize hc : sh_lo f i * 2 ^ p / 4294967296 = cy at h ⊢
    have e3 : (bv f i + w32 (f i) * pw i) * 2 ^ p = bv f i * 2 ^ p + T * pw i := by
      rw [Nat.add_mul, ← hT, Nat.mul_assoc, Nat.mul_comm (pw i), ← Nat.mul_assoc]
    have e4 : T * pw i = T / 4294967296 * (pw i * 4294967296) + T % 4294967296 * pw i := by
      have : T = T / 4294967296 * 4294967296 + T % 4294967296 := by omega
      conv => lhs; rw [this]
      rw [Nat.add_mul, Nat.mul_assoc, Nat.mul_comm 4294967296]
    rw [e3, e4, Nat.add_mul]
    omega
theorem sh_all {f : Nat → Int32} {n p : Nat} (hp : p < 32) : bv (sh_f f n p) (n + 1) = bv f n * 2 ^ p := by
  rw [bv_s]
  have e0 : w32 (sh_f f n p n) = sh_nw f n p n := w32_nI (Nat.mod_lt _ (by decide))
  have e1 : sh_hi f n n = 0 := by unfold sh_hi; rw [if_neg (by omega)]
  rw [e0, sh_nw_eq hp, e1, Nat.zero_mul, Nat.zero_mod, Nat.zero_add]
  exact sh_sum hp n (Nat.le_refl n)
theorem bv_move {g h : Nat → Int32} {w : Nat} (h0 : ∀ j, j < w → g j = 0) : ∀ n, (∀ k, k < n → g (k + w) = h k) → bv g (n + w) = bv h n * pw w := by
  intro n
  induction n with
  | zero =>
    intro hq
    rw [Nat.zero_add, bv_0, Nat.zero_mul]
    clear hq h
    induction w with
    | zero => rfl
    | succ w ih => rw [bv_s, h0 w (by omega), w32_0, ih (fun j hj => h0 j (by omega))]; omega
  | succ n ih =>
    intro hk
    have e : n + 1 + w = n + w + 1 := by omega
    rw [e, bv_s, ih (fun k h => hk k (by omega)), hk n (by omega), bv_s, Nat.add_mul, pw_add, Nat.mul_assoc]
