/-! THE REFERENCE'S LITERAL AND READING -/
theorem ite_dec {P : Prop} [Decidable P] {x y : Nat} : (if P then x else y) = if decide P = true then x else y := by
  by_cases h : P
  · rw [if_pos h, if_pos (decide_eq_true h)]
  · rw [if_neg h, if_neg (by rw [decide_eq_false h]; decide)]
theorem rn_top {P Z a b : Nat} (hP : 1 ≤ P) (hb : 0 < b) : rn P Z a b ≤ (Z + 2) * 2 ^ (P - 1) := by
  unfold rn
  split
  · exact Nat.le_refl _
  · rename_i h
    obtain ⟨j, hj⟩ : ∃ j, j = ju P (a / b) := ⟨_, rfl⟩
    rw [← hj] at h ⊢
    have h1 := bln_lt (a / b)
    have h2 : bln (a / b) ≤ P + j := by unfold ju at hj; omega
    have h3 : a / b < 2 ^ (P + j) := Nat.lt_of_lt_of_le h1 (two_pow_le h2)
    have h4 : a / (b * 2 ^ j) < 2 ^ P := by
      rw [← Nat.div_div_eq_div_mul, Nat.div_lt_iff_lt_mul (Nat.two_pow_pos j), ← Nat.pow_add]; exact h3
    have h5 : rne a (b * 2 ^ j) ≤ a / (b * 2 ^ j) + 1 := by unfold rne; split <;> omega
    have h6 : 2 ^ P = 2 * 2 ^ (P - 1) := by
      have : P = (P - 1) + 1 := by omega
      conv => lhs; rw [this]
      rw [Nat.pow_succ, Nat.mul_comm]
    have h7 : j * 2 ^ (P - 1) ≤ Z * 2 ^ (P - 1) := Nat.mul_le_mul_right _ (by omega)
    rw [Nat.add_mul]; omega
/-- a literal behind its prefix: whether it is one, what it says -/
def oL (hx : Bool) (T : Nat → Nat) (e a : Nat) : Bool := decide (0 < dN (bas hx) T e a) && (pOk hx T e (dE (bas hx) T e a) && decide ((if sfB T e (pAt hx T e (dE (bas hx) T e a)) then pAt hx T e (dE (bas hx) T e a) + 1 else pAt hx T e (dE (bas hx) T e a)) = e))
def vL (C i : Nat) (hx : Bool) (T : Nat → Nat) (e a : Nat) : Nat :=
  if hx = true then frn (kP i) (kZ i) (kLw i) (gv 16 T a (dE (bas hx) T e a - a)) 1 (pPw C hx T e (dE (bas hx) T e a) - 4 * gf T a (dE (bas hx) T e a - a))
  else dec (kP i) (kZ i) (kLw i) (gv 10 T a (dE (bas hx) T e a - a)) (pPw C hx T e (dE (bas hx) T e a) - gf T a (dE (bas hx) T e a - a))
theorem vL_lt {C i : Nat} {hx : Bool} {T : Nat → Nat} {e a : Nat} (hi : i < 2) : vL C i hx T e a < 9223372036854775808 := by
  have h1 := kIN_63 i hi
  have h2 := (kP_b i hi).2.1
  refine Nat.lt_of_le_of_lt ?_ h1
  unfold vL
  split
  · exact rn_top (by omega) (Nat.mul_pos (by decide) (Nat.two_pow_pos _))
  · exact rn_top (by omega) (ten_pos _)
theorem oL_1 {hx : Bool} {T : Nat → Nat} {e a : Nat} (h : dN (bas hx) T e a = 0) : oL hx T e a = false := by unfold oL; rw [h]; rfl
theorem oL_2 {hx : Bool} {T : Nat → Nat} {e a : Nat} (h : pOk hx T e (dE (bas hx) T e a) = false) : oL hx T e a = false := by unfold oL; rw [h, Bool.false_and, Bool.and_false]
theorem oL_3 {hx : Bool} {T : Nat → Nat} {e a : Nat} (h : (if sfB T e (pAt hx T e (dE (bas hx) T e a)) then pAt hx T e (dE (bas hx) T e a) + 1 else pAt hx T e (dE (bas hx) T e a)) ≠ e) : oL hx T e a = false := by unfold oL; rw [decide_eq_false h, Bool.and_false, Bool.and_false]
theorem oL_t {hx : Bool} {T : Nat → Nat} {e a : Nat} (h0 : 0 < dN (bas hx) T e a) (h1 : pOk hx T e (dE (bas hx) T e a) = true) (h : (if sfB T e (pAt hx T e (dE (bas hx) T e a)) then pAt hx T e (dE (bas hx) T e a) + 1 else pAt hx T e (dE (bas hx) T e a)) = e) : oL hx T e a = true := by unfold oL; rw [decide_eq_true h0, h1, decide_eq_true h]; rfl
theorem dE_c {β : Nat} {T : Nat → Nat} {e a : Nat} : (lk T e (sk β T e a) = 46 → sk β T e a < e ∧ bh0 β T e a = sk β T e (sk β T e a + 1) - (sk β T e a + 1) ∧ dE β T e a = sk β T e a + 1 + bh0 β T e a ∧ dE β T e a ≤ e) ∧ (lk T e (sk β T e a) ≠ 46 → bh0 β T e a = 0 ∧ dE β T e a = sk β T e a) := by
  constructor
  · intro h
    have h1 := lk_lt h (by decide)
    have h2 := sk_ge β T e (sk β T e a + 1)
    have h3 : sk β T e (sk β T e a + 1) ≤ e := sk_le (by omega)
    unfold bh0 dE
    rw [if_pos h, if_pos h]
    omega
  · intro h
    unfold bh0 dE
    rw [if_neg h, if_neg h]
    exact ⟨rfl, rfl⟩
theorem bas_16 {hx : Bool} : bas hx ≤ 16 ∧ 10 ≤ bas hx := by cases hx <;> decide
/-- the text, trimmed at its beginning first -/
def gP (T : Nat → Nat) (e a : Nat) : Nat := if lk T e a = 45 ∨ lk T e a = 43 then a + 1 else a
theorem gP_le {T : Nat → Nat} {e a : Nat} (h : a ≤ e) : gP T e a ≤ e := by
  unfold gP
  split
  · rename_i hp
    have : a < e := by rcases hp with z | z <;> exact lk_lt z (by decide)
    omega
  · exact h
def gF (T : Nat → Nat) (e p : Nat) : Nat := if wdB T e p 0 then 1 else if wdB T e p 1 then 2 else if oL (pxB T e p) T e (pxA T e p) then (if pxB T e p then 4 else 3) else 0
theorem px_lk {T : Nat → Nat} {e a : Nat} : pxB T e a = decide (lk T e a = 48 ∧ (lk T e (a + 1) = 120 ∨ lk T e (a + 1) = 88)) := by
  unfold pxB
  apply decide_eq_decide.mpr
  constructor
  · intro h
    rw [lk_in (by omega), lk_in (by omega)]; exact h.2
  · intro h
    have h1 := lk_lt h.1 (by decide)
    have h2 : a + 1 < e := by rcases h.2 with z | z <;> exact lk_lt z (by decide)
    rw [lk_in h1, lk_in h2] at h
    exact ⟨by omega, h⟩
theorem sk_end {β : Nat} {T : Nat → Nat} {e : Nat} : sk β T e e = e := sk_f (fun z => by omega)
theorem gF_end {T : Nat → Nat} {e : Nat} : gF T e e = 0 := by
  have h1 : wdB T e e 0 = false := by rw [wd_0]; exact decide_eq_false (fun z => by omega)
  have h2 : wdB T e e 1 = false := by rw [wd_1]; exact decide_eq_false (fun z => by omega)
  have h3 : pxB T e e = false := by unfold pxB; exact decide_eq_false (fun z => by omega)
  have h4 : pxA T e e = e := by unfold pxA; rw [h3]; rfl
  have h5 : dN (bas false) T e e = 0 := by
    unfold dN
    rw [sk_end, lk_out (by omega), if_neg (by decide)]; omega
  unfold gF
  rw [h1, h2, h3, h4, oL_1 h5]; rfl
theorem gF_of {T : Nat → Nat} {n a e : Nat} (h : (a = xA T n ∧ e = xE T n) ∨ (a = e ∧ xF T n = 0)) : gF T e (gP T e a) = xF T n ∧ (xF T n ≠ 0 → a = xA T n ∧ e = xE T n) := by
  rcases h with z | z
  · obtain ⟨z1, z2⟩ := z
    subst z1 z2
    exact ⟨rfl, fun _ => ⟨rfl, rfl⟩⟩
  · have h1 : gP T e a = e := by unfold gP; rw [z.1, lk_out (by omega), if_neg (by decide)]
    rw [h1, gF_end, z.2]
    exact ⟨rfl, fun y => absurd rfl y⟩
theorem bk_in {T : Nat → Nat} {e k j : Nat} (h1 : k ≤ j) (h2 : j < bk T e k) : j < e ∧ T j ≤ 32 := by
  have := (skP_all _ e (e - k) k (Nat.le_refl _)).2.2.1 j h1 h2
  exact ⟨this.1, of_decide_eq_true this.2⟩
theorem bk_cut {T : Nat → Nat} {n e a : Nat} (h : bk T n 0 = a) (ha : a < e) (hd : ¬ T a ≤ 32) : bk T e 0 = a := by
  have hs := (skP_all (fun j => decide (T j ≤ 32)) e (e - 0) 0 (Nat.le_refl _)).2.2.2
  rcases Nat.lt_trichotomy (bk T e 0) a with z | z | z
  · have := bk_in (T := T) (e := n) (k := 0) (Nat.zero_le _) (by rw [h]; exact z)
    exact absurd ⟨by have : skP (fun j => decide (T j ≤ 32)) e 0 < a := z; omega, decide_eq_true this.2⟩ hs
  · exact z
  · exact absurd (bk_in (Nat.zero_le _) z).2 hd
theorem tE_blank {T : Nat → Nat} : ∀ n, (∀ j, j < n → T j ≤ 32) → tE T n = 0 := by
  intro n
  induction n with
  | zero => intro _; rfl
  | succ n ih =>
    intro h
    show (if T n ≤ 32 then tE T n else n + 1) = 0
    rw [if_pos (h n (by omega))]
    exact ih (fun j hj => h j (by omega))
theorem blank_xF {T : Nat → Nat} {n : Nat} (h : bk T n 0 = n) : xF T n = 0 := by
  have h1 : tE T n = 0 := tE_blank n (fun j hj => (bk_in (T := T) (e := n) (k := 0) (Nat.zero_le _) (by rw [h]; exact hj)).2)
  have h2 : xE T n = 0 := h1
  have h3 : xA T n = 0 := Nat.le_zero.mp (by rw [← h2]; exact xA_le T n)
  have h4 : xP T n = 0 := Nat.le_zero.mp (by rw [← h2]; exact xP_le T n)
  have : xF T n = gF T (xE T n) (xP T n) := rfl
  rw [this, h2, h4]
  exact gF_end
/-- powers far off: 10^6 or 10^8, no matter -/
theorem pPw_c {C1 C2 : Nat} {hx : Bool} {T : Nat → Nat} {e a : Nat} (h : C1 ≤ C2) : pPw C1 hx T e a = pPw C2 hx T e a ∨ ((C1 : Int) ≤ pPw C1 hx T e a ∧ (C1 : Int) ≤ pPw C2 hx T e a) ∨ (pPw C1 hx T e a ≤ -(C1 : Int) ∧ pPw C2 hx T e a ≤ -(C1 : Int)) := by
  unfold pPw
  rcases Nat.le_total (pE T e a) C1 with z | z
  · left; rw [Nat.min_eq_left z, Nat.min_eq_left (by omega)]
  · rw [Nat.min_eq_right z]
    have : C1 ≤ min (pE T e a) C2 := Nat.le_min.mpr ⟨z, h⟩
    split
    · right
      split
      · right; omega
      · left; omega
    · left; rfl
theorem frn_far {P Z Lw M : Nat} {x y : Int} (hM : bln M ≤ 9600) (hL : Lw ≤ 1074) (hPZ : P + Z ≤ 2098) (h : x = y ∨ (900000 ≤ x ∧ 900000 ≤ y) ∨ (x ≤ -900000 ∧ y ≤ -900000)) : frn P Z Lw M 1 x = frn P Z Lw M 1 y := by
  rcases h with z | z | z
  · rw [z]
  · by_cases h0 : M = 0
    · rw [h0, fr_0, fr_0]
    · rw [fr_large h0 (by omega), fr_large h0 (by omega)]
  · rw [fr_small (by omega), fr_small (by omega)]
theorem dec_far {i M : Nat} {x y : Int} (hi : i < 2) (hM : M < 10 ^ 2400) (h : x = y ∨ (900000 ≤ x ∧ 900000 ≤ y) ∨ (x ≤ -900000 ∧ y ≤ -900000)) : dec (kP i) (kZ i) (kLw i) M x = dec (kP i) (kZ i) (kLw i) M y := by
  have hk := kP_b i hi
  rcases h with z | z | z
  · rw [z]
  · by_cases h0 : M = 0
    · rw [h0, dec_0, dec_0]
    · have h1 : 10 ^ 0 ≤ M := Nat.pos_of_ne_zero h0
      rw [dec_large (N4k i hi) h1 (by omega), dec_large (N4k i hi) h1 (by omega)]
  · rw [dec_small (N3k i hi) hM (by omega), dec_small (N3k i hi) hM (by omega)]
theorem rdN_C {i : Nat} {T : Nat → Nat} {n : Nat} (hi : i < 2) (hn : n ≤ 2400) : rdN 1000000 i T n = if xF T n = 2 then kIN i else if xF T n = 4 then vL 100000000 i (pxB T (xE T n) (xP T n)) T (xE T n) (pxA T (xE T n) (xP T n)) else if xF T n = 3 then vL 100000000 i (pxB T (xE T n) (xP T n)) T (xE T n) (pxA T (xE T n) (xP T n)) else rdN 1000000 i T n := by
  obtain ⟨x1, x2, x3⟩ := xF_hex (T := T) (n := n)
  have hk := kP_b i hi
  have hE : xE T n ≤ n := tE_le T n
  by_cases h2 : xF T n = 2
  · rw [if_pos h2]; unfold rdN; rw [if_pos h2]
  · rw [if_neg h2]
    obtain ⟨hr1, hr2, hr3⟩ := rd_in (T := T) (n := n) rfl
    obtain ⟨d, hd⟩ : ∃ d, d = lD T (xE T n) (xP T n) := ⟨_, rfl⟩
    obtain ⟨a, ha⟩ : ∃ a, a = pxA T (xE T n) (xP T n) := ⟨_, rfl⟩
    have hdE : dE (bas (pxB T (xE T n) (xP T n))) T (xE T n) (pxA T (xE T n) (xP T n)) = lD T (xE T n) (xP T n) := rfl
    have hc := pPw_c (C1 := 1000000) (C2 := 100000000) (hx := pxB T (xE T n) (xP T n)) (T := T) (e := xE T n) (a := lD T (xE T n) (xP T n)) (by decide)
    have hg := gf_le T (pxA T (xE T n) (xP T n)) (lD T (xE T n) (xP T n) - pxA T (xE T n) (xP T n))
    by_cases h4 : xF T n = 4
    · rw [if_pos h4]
      unfold rdN vL
      rw [if_neg h2, if_pos h4, if_pos (x1 h4), hdE]
      rw [x1 h4] at hr3 hc ⊢
      have hb := gv_lt (β := 16) (T := T) (a := pxA T (xE T n) (xP T n)) (by decide) (lD T (xE T n) (xP T n) - pxA T (xE T n) (xP T n)) (fun j hj => hr3 _ (by omega) (by omega))
      exact frn_far (bit16 hb (by omega)) hk.2.2.2.1 (by omega) (by omega)
    · rw [if_neg h4]
      by_cases h3 : xF T n = 3
      · rw [if_pos h3]
        unfold rdN vL
        rw [if_neg h2, if_neg h4, if_neg (by rw [x2 h3]; decide), hdE]
        rw [x2 h3] at hr3 hc ⊢
        have hb := gv_lt (β := 10) (T := T) (a := pxA T (xE T n) (xP T n)) (by decide) (lD T (xE T n) (xP T n) - pxA T (xE T n) (xP T n)) (fun j hj => hr3 _ (by omega) (by omega))
        exact dec_far hi (Nat.lt_of_lt_of_le hb (Nat.pow_le_pow_right (by decide) (by omega))) (by omega)
      · rw [if_neg h3]
/-- what is read -/
theorem rd_1 {i : Nat} {T : Nat → Nat} {n : Nat} {R : Int64} {fd : Int32} (h : xF T n = 1) : rdR i T n R = kNon i ∧ rdF T n fd = fd + 1 := by
  unfold rdR rdF; rw [h]; exact ⟨rfl, rfl⟩
theorem rd_2 {i : Nat} {T : Nat → Nat} {n : Nat} {R : Int64} {fd : Int32} (hi : i < 2) (h : xF T n = 2) : rdR i T n R = sgd i (kInf i) (bI (xM T n)) ∧ rdF T n fd = fd + 1 := by
  have h1 : rdN 1000000 i T n = kIN i := by unfold rdN; rw [if_pos h]
  unfold rdR rdF; rw [h1, h, kf_I i hi]; exact ⟨rfl, rfl⟩
theorem rd_0 {i : Nat} {T : Nat → Nat} {n : Nat} {R : Int64} {fd : Int32} (h : xF T n = 0) : rdR i T n R = R ∧ rdF T n fd = fd := by
  unfold rdR rdF; rw [h]; exact ⟨rfl, rfl⟩
theorem rd_3 {i : Nat} {T : Nat → Nat} {n : Nat} {R : Int64} {fd : Int32} (hi : i < 2) (hn : n ≤ 2400) (h : xF T n = 3 ∨ xF T n = 4) : rdR i T n R = sgd i (lN (vL 100000000 i (pxB T (xE T n) (xP T n)) T (xE T n) (pxA T (xE T n) (xP T n)))) (bI (xM T n)) ∧ rdF T n fd = fd + 1 := by
  have h1 := rdN_C (T := T) hi hn
  unfold rdR rdF
  rcases h with h | h
  · rw [h] at h1
    rw [h1, h]; exact ⟨rfl, rfl⟩
  · rw [h] at h1
    rw [h1, h]; exact ⟨rfl, rfl⟩
