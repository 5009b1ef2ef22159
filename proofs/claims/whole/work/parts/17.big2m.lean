/-! what the rest of Big needs: two limbs, lengths in bits, moving up -/
theorem or_l {a b : Nat} (ha : a < 4294967296) (h : b < 4294967296) : lN (b * 4294967296) ||| lN a = lN (b * 4294967296 + a) := by
  rw [wb_or (by omega) (by omega)]
  congr 1
  have := Nat.two_pow_add_eq_or_of_lt (i := 32) (b := a) (by omega) b
  rw [show b * 4294967296 = 2 ^ 32 * b by omega]
  exact this.symm
theorem sh_long {X p : Nat} (hp : p < 32) : ((lN X <<< ((nI p).toInt64 &&& 63)).toUInt64 >>> ((32 : Int32).toInt64.toUInt64 &&& Int64.toUInt64 63)).toInt64 = lN (X * 2 ^ p / 4294967296 % 4294967296) := by
  rw [wb_shl X (show p < 64 by omega), wb_mod]
  have h := wb_shr (n := X * 2 ^ p % 2 ^ 64) (k := 32) (Nat.mod_lt _ (by decide)) (by decide)
  have e : X * 2 ^ p % 2 ^ 64 / 2 ^ 32 = X * 2 ^ p / 4294967296 % 4294967296 := by
    rw [show (2 : Nat) ^ 64 = 2 ^ 32 * 4294967296 by decide, Nat.mod_mul_right_div_self]
  rw [e] at h
  exact h
theorem set_bv {f : Nat → Int32} {x : Nat} (hx : x < 2 ^ 64) : bv (upd (upd f 0 (nI x)) 1 (nI (x / 4294967296))) 2 = x := by
  rw [bv_s, bv_s, bv_0, pk_us, pk_un (by decide), pk_us, ← nI_mod x, w32_nI (Nat.mod_lt _ (by decide)), w32_nI (by omega), pw_0]
  show 0 + x % 4294967296 * 1 + x / 4294967296 * (1 * 4294967296) = x
  omega
theorem bl_B {f : Nat → Int32} {n V : Nat} (h : isB f (n + 1) V) : bln V = 32 * n + bln (w32 (f n)) := by
  have hne : f n ≠ 0 := by
    rcases h.2.2 with z | z
    · omega
    · exact z
  have hw := w32_ne hne
  have e : V = bv f n + w32 (f n) * pw n := by rw [← h.1, bv_s]
  have h1 := bv_lt f n
  have b1 := bln_le hw
  have b2 := bln_lt (w32 (f n))
  have b0 := bln_pos hw
  have r : 32 * n + bln (w32 (f n)) = (32 * n + (bln (w32 (f n)) - 1)) + 1 := by omega
  rw [r]
  refine bln_eq ?_ ?_
  · rw [Nat.pow_add, ← pw_2, Nat.mul_comm]
    have := Nat.mul_le_mul_right (pw n) b1
    omega
  · have e2 : 32 * n + (bln (w32 (f n)) - 1) + 1 = 32 * n + bln (w32 (f n)) := by omega
    rw [e2, Nat.pow_add, ← pw_2, Nat.mul_comm]
    have := Nat.mul_le_mul_right (pw n) (show w32 (f n) + 1 ≤ 2 ^ bln (w32 (f n)) by omega)
    rw [Nat.add_mul, Nat.one_mul] at this
    omega
theorem sh_bv {f g : Nat → Int32} {n c V : Nat} (hV : bv f n = V) (h0 : ∀ j, j < c / 32 → g j = 0) (hs : ∀ j, j ≤ n → g (j + c / 32) = sh_f f n (c % 32) j) : bv g (n + (c / 32 + 1)) = V * 2 ^ c := by
  have e : n + (c / 32 + 1) = n + 1 + c / 32 := by omega
  rw [e, bv_move h0 (n + 1) (fun k hk => hs k (by omega)), sh_all (Nat.mod_lt _ (by decide)), hV, pw_2, Nat.mul_assoc, ← Nat.pow_add]
  congr 2
  omega
theorem sh_step {f g : Nat → Int32} {n w p k : Nat} (hk : 0 < k) (hg : ∀ j, j < k → g j = f j) (hs : ∀ j, k ≤ j → j ≤ n → g (j + w) = sh_f f n p j) :
    (∀ j, j < k - 1 → upd g (k - 1 + w) (nI (sh_nw f n p (k - 1))) j = f j) ∧ (∀ j, k - 1 ≤ j → j ≤ n → upd g (k - 1 + w) (nI (sh_nw f n p (k - 1))) (j + w) = sh_f f n p j) := by
  constructor
  · intro j hj
    rw [pk_un (by omega)]; exact hg j (by omega)
  · intro j h1 h2
    by_cases h : j = k - 1
    · subst h; rw [pk_us]; rfl
    · rw [pk_un (by omega)]; exact hs j (by omega) h2
theorem five_fit {V c d e B : Nat} (h : V * 5 ^ c < B) (hd : d ≤ c) (he : e ≤ d) : V * 5 ^ (c - d) * 5 ^ e + 0 < B := by
  rw [Nat.mul_assoc, ← Nat.pow_add, Nat.add_zero]
  refine Nat.lt_of_le_of_lt (Nat.mul_le_mul_left V (Nat.pow_le_pow_right (by decide) (by omega))) h
theorem five_next {V c d e : Nat} (hd : d ≤ c) (he : e ≤ d) : V * 5 ^ (c - d) * 5 ^ e + 0 = V * 5 ^ (c - (d - e)) := by
  rw [Nat.mul_assoc, ← Nat.pow_add, Nat.add_zero]
  congr 2
  omega
