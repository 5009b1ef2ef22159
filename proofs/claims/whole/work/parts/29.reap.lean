/-! WHAT A READING SAYS -/
theorem or16 {L d : Nat} (hL : L < 1152921504606846976) (hd : d < 16) : lN (L * 16) ||| lN d = lN (L * 16 + d) := by
  rw [wb_or (by omega) (by omega)]
  congr 1
  have := Nat.two_pow_add_eq_or_of_lt (i := 4) (b := d) (by omega) L
  rw [show L * 16 = 2 ^ 4 * L by omega]
  exact this.symm
theorem hex_end {P Z Lw M L r tl : Nat} {w : Int} {mo : Bool} (hP : P ≤ 56) (hM : M = L * 16 ^ r + tl) (ht : tl < 16 ^ r) (hm : mo = decide (tl ≠ 0)) (hr : r ≠ 0 → 2 ^ 56 ≤ L) : frn P Z Lw M 1 w = kn P Z L (w + 4 * r + Lw) mo := by
  unfold frn
  obtain ⟨a1, ha1⟩ : ∃ a1 : Nat, a1 = (w + Lw).toNat := ⟨_, rfl⟩
  obtain ⟨b1, hb1⟩ : ∃ b1 : Nat, b1 = (-(w + Lw)).toNat := ⟨_, rfl⟩
  rw [← ha1, ← hb1]
  have e16 : 16 ^ r = 2 ^ (4 * r) := by rw [Nat.pow_mul]
  have key : L * 2 ^ (a1 + 4 * r) * (1 * 2 ^ b1) = L * 16 ^ r * (2 ^ a1 * 2 ^ b1) := by rw [e16, Nat.pow_add]; ac_rfl
  have keyM : M * 2 ^ a1 * 2 ^ b1 = M * (2 ^ a1 * 2 ^ b1) := by ac_rfl
  have key1 : (L + 1) * 2 ^ (a1 + 4 * r) * (1 * 2 ^ b1) = (L + 1) * 16 ^ r * (2 ^ a1 * 2 ^ b1) := by rw [e16, Nat.pow_add]; ac_rfl
  have hp : 0 < 2 ^ a1 * 2 ^ b1 := Nat.mul_pos (Nat.two_pow_pos _) (Nat.two_pow_pos _)
  refine rn_kn (u := a1 + 4 * r) (v := b1) (Nat.mul_pos (by decide) (Nat.two_pow_pos _)) (by omega) ?_ ?_ ?_ (fun h => ?_)
  · rw [key, keyM]; exact Nat.mul_le_mul_right _ (by omega)
  · rw [key1, keyM]
    refine Nat.mul_lt_mul_of_pos_right ?_ hp
    rw [Nat.add_mul, Nat.one_mul]; omega
  · rw [key, keyM, hm]
    constructor
    · intro z y
      have z := of_decide_eq_true z
      have := Nat.eq_of_mul_eq_mul_right hp y
      omega
    · intro z
      refine decide_eq_true (fun y => z ?_)
      rw [hM, y, Nat.add_zero]
  · rw [hm] at h
    have h := of_decide_eq_true h
    have hr0 : r ≠ 0 := fun z => by rw [z, Nat.pow_zero] at ht; omega
    have := lt_bln (hr hr0)
    omega
theorem dg_10 {c : Nat} (h : dg c < 10) : 48 ≤ c ∧ c ≤ 57 := by
  unfold dg at h
  split at h
  · assumption
  · split at h
    · omega
    · split at h <;> omega
theorem dE_in {β : Nat} {T : Nat → Nat} {e a j : Nat} (h1 : a ≤ j) (h2 : j < dE β T e a) : T j = 46 ∨ dg (T j) < β := by
  unfold dE at h2
  split at h2
  · rename_i hp
    rcases Nat.lt_or_ge j (sk β T e a) with z | z
    · exact Or.inr (sk_in h1 z).2
    · by_cases hj : j = sk β T e a
      · left; rw [hj]; exact (lk_in (T := T) (lk_lt hp (by decide))).symm.trans hp
      · exact Or.inr (sk_in (by omega) h2).2
  · exact Or.inr (sk_in h1 h2).2
/-- the size that the text says, as bits; powers beyond C are C -/
def rdN (C i : Nat) (T : Nat → Nat) (n : Nat) : Nat :=
  if xF T n = 2 then kIN i
  else if xF T n = 4 then frn (kP i) (kZ i) (kLw i) (gv 16 T (pxA T (xE T n) (xP T n)) (lD T (xE T n) (xP T n) - pxA T (xE T n) (xP T n))) 1 (pPw C (pxB T (xE T n) (xP T n)) T (xE T n) (lD T (xE T n) (xP T n)) - 4 * gf T (pxA T (xE T n) (xP T n)) (lD T (xE T n) (xP T n) - pxA T (xE T n) (xP T n)))
  else dec (kP i) (kZ i) (kLw i) (gv 10 T (pxA T (xE T n) (xP T n)) (lD T (xE T n) (xP T n) - pxA T (xE T n) (xP T n))) (pPw C (pxB T (xE T n) (xP T n)) T (xE T n) (lD T (xE T n) (xP T n)) - gf T (pxA T (xE T n) (xP T n)) (lD T (xE T n) (xP T n) - pxA T (xE T n) (xP T n)))
theorem pPw_b {hx : Bool} {T : Nat → Nat} {e a C : Nat} : -(C : Int) ≤ pPw C hx T e a ∧ pPw C hx T e a ≤ C := by
  unfold pPw
  have h : min (pE T e a) C ≤ C := Nat.min_le_right _ _
  split
  · split <;> omega
  · omega
theorem xF_hex {T : Nat → Nat} {n : Nat} : (xF T n = 4 → pxB T (xE T n) (xP T n) = true) ∧ (xF T n = 3 → pxB T (xE T n) (xP T n) = false) ∧ xF T n ≤ 4 := by
  unfold xF
  cases wdB T (xE T n) (xP T n) 0 <;> cases wdB T (xE T n) (xP T n) 1 <;> cases litB T (xE T n) (xP T n) <;> cases pxB T (xE T n) (xP T n) <;> decide
theorem rd_in {β : Nat} {T : Nat → Nat} {n : Nat} (hβ : β = bas (pxB T (xE T n) (xP T n))) : pxA T (xE T n) (xP T n) ≤ lD T (xE T n) (xP T n) ∧ lD T (xE T n) (xP T n) ≤ xE T n ∧ ∀ j, pxA T (xE T n) (xP T n) ≤ j → j < lD T (xE T n) (xP T n) → T j = 46 ∨ dg (T j) < β := by
  have h1 := pxA_le (T := T) (xP_le T n)
  have h2 := dE_le (β := bas (pxB T (xE T n) (xP T n))) (T := T) h1.2
  refine ⟨h2.1, h2.2, fun j a b => ?_⟩
  rw [hβ]
  exact dE_in a b
