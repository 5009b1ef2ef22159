/-! THE TEXT'S PARTS, as numbers -/
def skp (p : Nat → Bool) : Nat → Nat → Nat
  | 0, k => k
  | f + 1, k => if p k then skp p f (k + 1) else k
theorem skp_f {p : Nat → Bool} {k : Nat} (h : p k = false) : ∀ f, skp p f k = k := by
  intro f
  cases f with
  | zero => rfl
  | succ f => show (if p k then _ else _) = _; rw [h]; rfl
/-- from k on, below e, as long as p holds -/
def skP (p : Nat → Bool) (e k : Nat) : Nat := skp p (e - k) k
theorem skP_t {p : Nat → Bool} {e k : Nat} (h1 : k < e) (h2 : p k = true) : skP p e k = skP p e (k + 1) := by
  unfold skP
  rw [show e - k = (e - (k + 1)) + 1 by omega]
  show (if p k then _ else _) = _
  rw [h2]; rfl
theorem skP_f {p : Nat → Bool} {e k : Nat} (h : ¬ (k < e ∧ p k = true)) : skP p e k = k := by
  unfold skP
  rcases Nat.lt_or_ge k e with z | z
  · refine skp_f ?_ _
    cases hp : p k with
    | false => rfl
    | true => exact absurd ⟨z, hp⟩ h
  · rw [show e - k = 0 by omega]; rfl
theorem skP_all (p : Nat → Bool) (e : Nat) : ∀ (f k : Nat), e - k ≤ f → k ≤ skP p e k ∧ (k ≤ e → skP p e k ≤ e) ∧ (∀ j, k ≤ j → j < skP p e k → j < e ∧ p j = true) ∧ ¬ (skP p e k < e ∧ p (skP p e k) = true) := by
  intro f
  induction f with
  | zero =>
    intro k hk
    rw [skP_f (show ¬ (k < e ∧ p k = true) from fun h => by omega)]
    exact ⟨Nat.le_refl _, fun h => h, fun j h1 h2 => absurd h2 (by omega), fun h => by omega⟩
  | succ f ih =>
    intro k hk
    by_cases h : k < e ∧ p k = true
    · rw [skP_t h.1 h.2]
      obtain ⟨a1, a2, a3, a4⟩ := ih (k + 1) (by omega)
      refine ⟨by omega, fun _ => a2 (by omega), fun j h1 h2 => ?_, a4⟩
      by_cases hj : j = k
      · subst hj; exact h
      · exact a3 j (by omega) h2
    · rw [skP_f h]
      exact ⟨Nat.le_refl _, fun h => h, fun j h1 h2 => absurd h2 (by omega), h⟩
/-- behind the digits; behind the blanks -/
def sk (β : Nat) (T : Nat → Nat) (e k : Nat) : Nat := skP (fun j => decide (dg (T j) < β)) e k
def bk (T : Nat → Nat) (e k : Nat) : Nat := skP (fun j => decide (T j ≤ 32)) e k
theorem sk_t {β : Nat} {T : Nat → Nat} {e k : Nat} (h1 : k < e) (h2 : dg (T k) < β) : sk β T e k = sk β T e (k + 1) := skP_t h1 (decide_eq_true h2)
theorem sk_f {β : Nat} {T : Nat → Nat} {e k : Nat} (h : ¬ (k < e ∧ dg (T k) < β)) : sk β T e k = k := skP_f (fun z => h ⟨z.1, of_decide_eq_true z.2⟩)
theorem sk_ge (β : Nat) (T : Nat → Nat) (e k : Nat) : k ≤ sk β T e k := (skP_all _ e (e - k) k (Nat.le_refl _)).1
theorem sk_le {β : Nat} {T : Nat → Nat} {e k : Nat} (h : k ≤ e) : sk β T e k ≤ e := (skP_all _ e (e - k) k (Nat.le_refl _)).2.1 h
theorem sk_in {β : Nat} {T : Nat → Nat} {e k j : Nat} (h1 : k ≤ j) (h2 : j < sk β T e k) : j < e ∧ dg (T j) < β := by
  have := (skP_all _ e (e - k) k (Nat.le_refl _)).2.2.1 j h1 h2
  exact ⟨this.1, of_decide_eq_true this.2⟩
theorem bk_t {T : Nat → Nat} {e k : Nat} (h1 : k < e) (h2 : T k ≤ 32) : bk T e k = bk T e (k + 1) := skP_t h1 (decide_eq_true h2)
theorem bk_f {T : Nat → Nat} {e k : Nat} (h : ¬ (k < e ∧ T k ≤ 32)) : bk T e k = k := skP_f (fun z => h ⟨z.1, of_decide_eq_true z.2⟩)
theorem bk_le {T : Nat → Nat} {e k : Nat} (h : k ≤ e) : bk T e k ≤ e := (skP_all _ e (e - k) k (Nat.le_refl _)).2.1 h
def tE (T : Nat → Nat) : Nat → Nat
  | 0 => 0
  | n + 1 => if T n ≤ 32 then tE T n else n + 1
theorem tE_le (T : Nat → Nat) (n : Nat) : tE T n ≤ n := by
  induction n with
  | zero => exact Nat.le_refl 0
  | succ n ih =>
    show (if T n ≤ 32 then tE T n else n + 1) ≤ n + 1
    split
    · omega
    · exact Nat.le_refl _
theorem tE_t {T : Nat → Nat} {n : Nat} (h0 : 0 < n) (h : T (n - 1) ≤ 32) : tE T n = tE T (n - 1) := by
  obtain ⟨k, rfl⟩ : ∃ k, n = k + 1 := ⟨n - 1, by omega⟩
  rw [Nat.add_sub_cancel] at h ⊢
  show (if _ then _ else _) = _
  rw [if_pos h]
theorem tE_f {T : Nat → Nat} {n : Nat} (h0 : 0 < n) (h : ¬ T (n - 1) ≤ 32) : tE T n = n := by
  obtain ⟨k, rfl⟩ : ∃ k, n = k + 1 := ⟨n - 1, by omega⟩
  rw [Nat.add_sub_cancel] at h
  show (if _ then _ else _) = _
  rw [if_neg h]
/-- the character at k, 0 at the end -/
def lk (T : Nat → Nat) (e k : Nat) : Nat := if k < e then T k else 0
theorem lk_in {T : Nat → Nat} {e k : Nat} (h : k < e) : lk T e k = T k := if_pos h
theorem lk_out {T : Nat → Nat} {e k : Nat} (h : ¬ k < e) : lk T e k = 0 := if_neg h
theorem lk_lt {T : Nat → Nat} {e k c : Nat} (h : lk T e k = c) (hc : c ≠ 0) : k < e := by
  rcases Nat.lt_or_ge k e with z | z
  · exact z
  · rw [lk_out (by omega)] at h; exact absurd h.symm hc
theorem lk_b {T : Nat → Nat} (hT : ∀ j, T j < 256) (e k : Nat) : lk T e k < 256 := by
  unfold lk; split
  · exact hT k
  · decide
/-- 0x -/
def pxB (T : Nat → Nat) (e a : Nat) : Bool := decide (2 ≤ e - a ∧ T a = 48 ∧ (T (a + 1) = 120 ∨ T (a + 1) = 88))
def pxA (T : Nat → Nat) (e a : Nat) : Nat := if pxB T e a then a + 2 else a
/-- a word is all the rest -/
def wdB (T : Nat → Nat) (e a j : Nat) : Bool := decide (e - a = sLen.getD j 0 ∧ ∀ k, k < sLen.getD j 0 → T (a + k) = sCh j k)
/-- where the digits end, how many they are -/
def dE (β : Nat) (T : Nat → Nat) (e a : Nat) : Nat := if lk T e (sk β T e a) = 46 then sk β T e (sk β T e a + 1) else sk β T e a
def dN (β : Nat) (T : Nat → Nat) (e a : Nat) : Nat := if lk T e (sk β T e a) = 46 then sk β T e a - a + (sk β T e (sk β T e a + 1) - (sk β T e a + 1)) else sk β T e a - a
theorem dE_le {β : Nat} {T : Nat → Nat} {e a : Nat} (h : a ≤ e) : a ≤ dE β T e a ∧ dE β T e a ≤ e := by
  have h1 := sk_ge β T e a
  have h2 : sk β T e a ≤ e := sk_le h
  unfold dE
  split
  · rename_i hp
    have h3 := lk_lt hp (by decide)
    have h4 := sk_ge β T e (sk β T e a + 1)
    have h5 : sk β T e (sk β T e a + 1) ≤ e := sk_le (by omega)
    omega
  · omega
/-- the power: its mark, its sign, its digits -/
def xv (T : Nat → Nat) (s : Nat) : Nat → Nat
  | 0 => 0
  | n + 1 => xv T s n * 10 + dg (T (s + n))
def mkB (hx : Bool) (T : Nat → Nat) (e a : Nat) : Bool := if hx then decide (lk T e a = 112 ∨ lk T e a = 80) else decide (lk T e a = 101 ∨ lk T e a = 69)
def ngB (T : Nat → Nat) (e a : Nat) : Bool := decide (lk T e (a + 1) = 45)
def pS (T : Nat → Nat) (e a : Nat) : Nat := if lk T e (a + 1) = 45 ∨ lk T e (a + 1) = 43 then a + 2 else a + 1
def pX (T : Nat → Nat) (e a : Nat) : Nat := sk 10 T e (pS T e a)
def pE (T : Nat → Nat) (e a : Nat) : Nat := xv T (pS T e a) (pX T e a - pS T e a)
def pAt (hx : Bool) (T : Nat → Nat) (e a : Nat) : Nat := if mkB hx T e a then pX T e a else a
def pOk (hx : Bool) (T : Nat → Nat) (e a : Nat) : Bool := if mkB hx T e a then decide (pS T e a < pX T e a) else !hx
def pPw (M : Nat) (hx : Bool) (T : Nat → Nat) (e a : Nat) : Int := if mkB hx T e a then (if ngB T e a then -((min (pE T e a) M : Nat) : Int) else ((min (pE T e a) M : Nat) : Int)) else 0
theorem mk_lt {hx : Bool} {T : Nat → Nat} {e a : Nat} (h : mkB hx T e a = true) : a < e := by
  unfold mkB at h
  cases hx with
  | true => rcases of_decide_eq_true h with z | z <;> exact lk_lt z (by decide)
  | false => rcases of_decide_eq_true h with z | z <;> exact lk_lt z (by decide)
theorem pS_le {T : Nat → Nat} {e a : Nat} (h : a < e) : pS T e a ≤ e ∧ a < pS T e a := by
  unfold pS
  split
  · rename_i hp
    have : a + 1 < e := by rcases hp with z | z <;> exact lk_lt z (by decide)
    omega
  · omega
theorem pAt_le {hx : Bool} {T : Nat → Nat} {e a : Nat} (h : a ≤ e) : a ≤ pAt hx T e a ∧ pAt hx T e a ≤ e := by
  unfold pAt
  cases hm : mkB hx T e a with
  | false => exact ⟨Nat.le_refl _, h⟩
  | true =>
    have h1 := pS_le (T := T) (mk_lt hm)
    have h2 := sk_ge 10 T e (pS T e a)
    have h3 : sk 10 T e (pS T e a) ≤ e := sk_le h1.1
    show a ≤ pX T e a ∧ pX T e a ≤ e
    unfold pX
    omega
theorem min_st (E M d : Nat) : min (min E M * 10 + d) M = min (E * 10 + d) M := by
  rcases Nat.le_total E M with h | h
  · rw [Nat.min_eq_left h]
  · rw [Nat.min_eq_right h]
    rw [Nat.min_eq_right (by omega), Nat.min_eq_right (by omega)]
/-- a suffix; the whole literal -/
def sfB (T : Nat → Nat) (e a : Nat) : Bool := decide ((lk T e a = 102 ∨ lk T e a = 70) ∨ (lk T e a = 100 ∨ lk T e a = 68))
def bas (hx : Bool) : Nat := if hx then 16 else 10
def lD (T : Nat → Nat) (e a : Nat) : Nat := dE (bas (pxB T e a)) T e (pxA T e a)
def lX (T : Nat → Nat) (e a : Nat) : Nat := pAt (pxB T e a) T e (lD T e a)
def litB (T : Nat → Nat) (e a : Nat) : Bool := decide (0 < dN (bas (pxB T e a)) T e (pxA T e a)) && (pOk (pxB T e a) T e (lD T e a) && decide ((if sfB T e (lX T e a) then lX T e a + 1 else lX T e a) = e))
theorem pxA_le {T : Nat → Nat} {e a : Nat} (h : a ≤ e) : a ≤ pxA T e a ∧ pxA T e a ≤ e := by
  unfold pxA
  cases hp : pxB T e a with
  | false => exact ⟨Nat.le_refl _, h⟩
  | true =>
    have := (of_decide_eq_true hp).1
    show a ≤ a + 2 ∧ a + 2 ≤ e
    omega
/-- the whole text: what is left of it, its sign, whether it is a NUMERAL -/
def xE (T : Nat → Nat) (n : Nat) : Nat := tE T n
def xA (T : Nat → Nat) (n : Nat) : Nat := bk T (tE T n) 0
def xM (T : Nat → Nat) (n : Nat) : Bool := decide (lk T (xE T n) (xA T n) = 45)
def xP (T : Nat → Nat) (n : Nat) : Nat := if lk T (xE T n) (xA T n) = 45 ∨ lk T (xE T n) (xA T n) = 43 then xA T n + 1 else xA T n
theorem xA_le (T : Nat → Nat) (n : Nat) : xA T n ≤ xE T n := bk_le (Nat.zero_le _)
theorem xP_le (T : Nat → Nat) (n : Nat) : xP T n ≤ xE T n := by
  unfold xP
  split
  · rename_i hp
    have : xA T n < xE T n := by rcases hp with z | z <;> exact lk_lt z (by decide)
    omega
  · exact xA_le T n
/-- 1: NaN, 2: Infinity, 3 and 4: a literal, 0: none -/
def xF (T : Nat → Nat) (n : Nat) : Nat := if wdB T (xE T n) (xP T n) 0 then 1 else if wdB T (xE T n) (xP T n) 1 then 2 else if litB T (xE T n) (xP T n) then (if pxB T (xE T n) (xP T n) then 4 else 3) else 0
