theorem pw_min {T : Nat → Nat} {s k : Nat} (h : s ≤ k) : (if (1000000 : Int32) < zI ((min (xv T s (k - s)) 1000000 * 10 + dg (T k) : Nat) : Int) then (1000000 : Int32) else zI ((min (xv T s (k - s)) 1000000 * 10 + dg (T k) : Nat) : Int)) = zI ((min (xv T s ((k + 1) - s)) 1000000 : Nat) : Int) := by
  have hd := dg_le (T k)
  have hm : min (xv T s (k - s)) 1000000 ≤ 1000000 := Nat.min_le_right _ _
  have e : xv T s (k + 1 - s) = xv T s (k - s) * 10 + dg (T k) := by
    rw [show k + 1 - s = (k - s) + 1 by omega]
    show xv T s (k - s) * 10 + dg (T (s + (k - s))) = _
    rw [show s + (k - s) = k by omega]
  rw [e, ← min_st]
  have hX : min (xv T s (k - s)) 1000000 * 10 + dg (T k) ≤ 10000016 := by omega
  generalize min (xv T s (k - s)) 1000000 * 10 + dg (T k) = X at hX ⊢
  show (if zI 1000000 < zI (X : Int) then zI 1000000 else zI (X : Int)) = _
  by_cases h2 : (1000000 : Int) < X
  · rw [if_pos ((zI_lt (by omega) (by omega) (by omega) (by omega)).mpr h2), Nat.min_eq_right (by omega)]; rfl
  · rw [if_neg (fun z => h2 ((zI_lt (by omega) (by omega) (by omega) (by omega)).mp z)), Nat.min_eq_left (by omega)]
/-- what a reading's finder leaves -/
def finOK (T : Nat → Nat) (n : Nat) (r : Int32) (u : Int32 × Int32 × Int32 × Int32 × Int32 × Int32 × Int32) : Prop :=
  r = bI (decide (xF T n ≠ 0)) ∧ u.2.2.1 = bI (xM T n) ∧ (xF T n ≠ 0 → u.2.2.2.1 = nI (xF T n)) ∧ (2 < xF T n → u.2.2.2.2.1 = nI (pxA T (xE T n) (xP T n)) ∧ u.2.2.2.2.2.1 = nI (lD T (xE T n) (xP T n)) ∧ u.2.2.2.2.2.2 = zI (pPw 1000000 (pxB T (xE T n) (xP T n)) T (xE T n) (lD T (xE T n) (xP T n))))
theorem fin_lit {T : Nat → Nat} {n : Nat} {ua ue uf ur ut up : Int32} (h1 : wdB T (xE T n) (xP T n) 0 = false) (h2 : wdB T (xE T n) (xP T n) 1 = false) (h : litB T (xE T n) (xP T n) = true → uf = nI (if pxB T (xE T n) (xP T n) then 4 else 3) ∧ ur = nI (pxA T (xE T n) (xP T n)) ∧ ut = nI (lD T (xE T n) (xP T n)) ∧ up = zI (pPw 1000000 (pxB T (xE T n) (xP T n)) T (xE T n) (lD T (xE T n) (xP T n)))) : finOK T n (bI (litB T (xE T n) (xP T n))) (ua, ue, bI (xM T n), uf, ur, ut, up) := by
  have hx : xF T n = if litB T (xE T n) (xP T n) then (if pxB T (xE T n) (xP T n) then 4 else 3) else 0 := by unfold xF; rw [h1, h2]; rfl
  unfold finOK
  rw [hx]
  cases hl : litB T (xE T n) (xP T n) with
  | false => exact ⟨rfl, rfl, fun z => absurd rfl z, fun z => by have z : 2 < 0 := z; omega⟩
  | true =>
    obtain ⟨a1, a2, a3, a4⟩ := h hl
    refine ⟨?_, rfl, fun _ => a1, fun _ => ⟨a2, a3, a4⟩⟩
    cases pxB T (xE T n) (xP T n) <;> rfl
theorem fin_1 {T : Nat → Nat} {n : Nat} {ua ue ur ut up : Int32} (h1 : wdB T (xE T n) (xP T n) 0 = true) : finOK T n 1 (ua, ue, bI (xM T n), nI 1, ur, ut, up) := by
  have hx : xF T n = 1 := by unfold xF; rw [h1]; rfl
  unfold finOK
  rw [hx]
  exact ⟨rfl, rfl, fun _ => rfl, fun z => absurd z (by decide)⟩
theorem fin_2 {T : Nat → Nat} {n : Nat} {ua ue ur ut up : Int32} (h1 : wdB T (xE T n) (xP T n) 0 = false) (h2 : wdB T (xE T n) (xP T n) 1 = true) : finOK T n 1 (ua, ue, bI (xM T n), nI 2, ur, ut, up) := by
  have hx : xF T n = 2 := by unfold xF; rw [h1, h2]; rfl
  unfold finOK
  rw [hx]
  exact ⟨rfl, rfl, fun _ => rfl, fun z => absurd z (by decide)⟩
theorem d_Num_findPower_0 : decode b_Num_findPower 0 = .ok (.aload_n 0, 1) := by decide +kernel
theorem d_Num_findPower_1 : decode b_Num_findPower 1 = .ok (.iconst 0, 1) := by decide +kernel
theorem d_Num_findPower_2 : decode b_Num_findPower 2 = .ok (.putfield 93, 3) := by decide +kernel
theorem d_Num_findPower_5 : decode b_Num_findPower 5 = .ok (.aload_n 0, 1) := by decide +kernel
theorem d_Num_findPower_6 : decode b_Num_findPower 6 = .ok (.getfield 37, 3) := by decide +kernel
theorem d_Num_findPower_9 : decode b_Num_findPower 9 = .ok (.iconst 4, 1) := by decide +kernel
theorem d_Num_findPower_10 : decode b_Num_findPower 10 = .ok (.if_icmp .ne 14, 3) := by decide +kernel
theorem d_Num_findPower_13 : decode b_Num_findPower 13 = .ok (.aload_n 0, 1) := by decide +kernel
theorem d_Num_findPower_14 : decode b_Num_findPower 14 = .ok (.bipush 112, 2) := by decide +kernel
theorem d_Num_findPower_16 : decode b_Num_findPower 16 = .ok (.bipush 80, 2) := by decide +kernel
theorem d_Num_findPower_18 : decode b_Num_findPower 18 = .ok (.invokevirtual 75, 3) := by decide +kernel
theorem d_Num_findPower_21 : decode b_Num_findPower 21 = .ok (.goto 11, 3) := by decide +kernel
theorem d_Num_findPower_24 : decode b_Num_findPower 24 = .ok (.aload_n 0, 1) := by decide +kernel
theorem d_Num_findPower_25 : decode b_Num_findPower 25 = .ok (.bipush 101, 2) := by decide +kernel
theorem d_Num_findPower_27 : decode b_Num_findPower 27 = .ok (.bipush 69, 2) := by decide +kernel
theorem d_Num_findPower_29 : decode b_Num_findPower 29 = .ok (.invokevirtual 75, 3) := by decide +kernel
theorem d_Num_findPower_32 : decode b_Num_findPower 32 = .ok (.istore_n 1, 1) := by decide +kernel
theorem d_Num_findPower_33 : decode b_Num_findPower 33 = .ok (.iload_n 1, 1) := by decide +kernel
theorem d_Num_findPower_34 : decode b_Num_findPower 34 = .ok (.ifCond .ne 17, 3) := by decide +kernel
theorem d_Num_findPower_37 : decode b_Num_findPower 37 = .ok (.aload_n 0, 1) := by decide +kernel
theorem d_Num_findPower_38 : decode b_Num_findPower 38 = .ok (.getfield 37, 3) := by decide +kernel
theorem d_Num_findPower_41 : decode b_Num_findPower 41 = .ok (.iconst 3, 1) := by decide +kernel
theorem d_Num_findPower_42 : decode b_Num_findPower 42 = .ok (.if_icmp .ne 7, 3) := by decide +kernel
theorem d_Num_findPower_45 : decode b_Num_findPower 45 = .ok (.iconst 1, 1) := by decide +kernel
theorem d_Num_findPower_46 : decode b_Num_findPower 46 = .ok (.goto 4, 3) := by decide +kernel
theorem d_Num_findPower_49 : decode b_Num_findPower 49 = .ok (.iconst 0, 1) := by decide +kernel
theorem d_Num_findPower_50 : decode b_Num_findPower 50 = .ok (.ireturn, 1) := by decide +kernel
theorem d_Num_findPower_51 : decode b_Num_findPower 51 = .ok (.aload_n 0, 1) := by decide +kernel
theorem d_Num_findPower_52 : decode b_Num_findPower 52 = .ok (.dup, 1) := by decide +kernel
theorem d_Num_findPower_53 : decode b_Num_findPower 53 = .ok (.getfield 27, 3) := by decide +kernel
theorem d_Num_findPower_56 : decode b_Num_findPower 56 = .ok (.iconst 1, 1) := by decide +kernel
theorem d_Num_findPower_57 : decode b_Num_findPower 57 = .ok (.iadd, 1) := by decide +kernel
theorem d_Num_findPower_58 : decode b_Num_findPower 58 = .ok (.putfield 27, 3) := by decide +kernel
theorem d_Num_findPower_61 : decode b_Num_findPower 61 = .ok (.aload_n 0, 1) := by decide +kernel
theorem d_Num_findPower_62 : decode b_Num_findPower 62 = .ok (.invokevirtual 19, 3) := by decide +kernel
theorem d_Num_findPower_65 : decode b_Num_findPower 65 = .ok (.bipush 45, 2) := by decide +kernel
theorem d_Num_findPower_67 : decode b_Num_findPower 67 = .ok (.if_icmp .ne 7, 3) := by decide +kernel
theorem d_Num_findPower_70 : decode b_Num_findPower 70 = .ok (.iconst 1, 1) := by decide +kernel
theorem d_Num_findPower_71 : decode b_Num_findPower 71 = .ok (.goto 4, 3) := by decide +kernel
theorem d_Num_findPower_74 : decode b_Num_findPower 74 = .ok (.iconst 0, 1) := by decide +kernel
theorem d_Num_findPower_75 : decode b_Num_findPower 75 = .ok (.istore_n 2, 1) := by decide +kernel
theorem d_Num_findPower_76 : decode b_Num_findPower 76 = .ok (.iload_n 2, 1) := by decide +kernel
theorem d_Num_findPower_77 : decode b_Num_findPower 77 = .ok (.ifCond .ne 12, 3) := by decide +kernel
theorem d_Num_findPower_80 : decode b_Num_findPower 80 = .ok (.aload_n 0, 1) := by decide +kernel
theorem d_Num_findPower_81 : decode b_Num_findPower 81 = .ok (.invokevirtual 19, 3) := by decide +kernel
theorem d_Num_findPower_84 : decode b_Num_findPower 84 = .ok (.bipush 43, 2) := by decide +kernel
theorem d_Num_findPower_86 : decode b_Num_findPower 86 = .ok (.if_icmp .ne 13, 3) := by decide +kernel
theorem d_Num_findPower_89 : decode b_Num_findPower 89 = .ok (.aload_n 0, 1) := by decide +kernel
theorem d_Num_findPower_90 : decode b_Num_findPower 90 = .ok (.dup, 1) := by decide +kernel
theorem d_Num_findPower_91 : decode b_Num_findPower 91 = .ok (.getfield 27, 3) := by decide +kernel
theorem d_Num_findPower_94 : decode b_Num_findPower 94 = .ok (.iconst 1, 1) := by decide +kernel
theorem d_Num_findPower_95 : decode b_Num_findPower 95 = .ok (.iadd, 1) := by decide +kernel
theorem d_Num_findPower_96 : decode b_Num_findPower 96 = .ok (.putfield 27, 3) := by decide +kernel
theorem d_Num_findPower_99 : decode b_Num_findPower 99 = .ok (.aload_n 0, 1) := by decide +kernel
theorem d_Num_findPower_100 : decode b_Num_findPower 100 = .ok (.getfield 27, 3) := by decide +kernel
theorem d_Num_findPower_103 : decode b_Num_findPower 103 = .ok (.istore_n 3, 1) := by decide +kernel
theorem d_Num_findPower_104 : decode b_Num_findPower 104 = .ok (.aload_n 0, 1) := by decide +kernel
theorem d_Num_findPower_105 : decode b_Num_findPower 105 = .ok (.getfield 27, 3) := by decide +kernel
theorem d_Num_findPower_108 : decode b_Num_findPower 108 = .ok (.aload_n 0, 1) := by decide +kernel
theorem d_Num_findPower_109 : decode b_Num_findPower 109 = .ok (.getfield 52, 3) := by decide +kernel
theorem d_Num_findPower_112 : decode b_Num_findPower 112 = .ok (.if_icmp .ge 62, 3) := by decide +kernel
theorem d_Num_findPower_115 : decode b_Num_findPower 115 = .ok (.aload_n 0, 1) := by decide +kernel
theorem d_Num_findPower_116 : decode b_Num_findPower 116 = .ok (.getfield 9, 3) := by decide +kernel
theorem d_Num_findPower_119 : decode b_Num_findPower 119 = .ok (.aload_n 0, 1) := by decide +kernel
theorem d_Num_findPower_120 : decode b_Num_findPower 120 = .ok (.getfield 27, 3) := by decide +kernel
theorem d_Num_findPower_123 : decode b_Num_findPower 123 = .ok (.caload, 1) := by decide +kernel
theorem d_Num_findPower_124 : decode b_Num_findPower 124 = .ok (.invokestatic 89, 3) := by decide +kernel
theorem d_Num_findPower_127 : decode b_Num_findPower 127 = .ok (.bipush 10, 2) := by decide +kernel
theorem d_Num_findPower_129 : decode b_Num_findPower 129 = .ok (.if_icmp .ge 45, 3) := by decide +kernel
theorem d_Num_findPower_132 : decode b_Num_findPower 132 = .ok (.aload_n 0, 1) := by decide +kernel
theorem d_Num_findPower_133 : decode b_Num_findPower 133 = .ok (.aload_n 0, 1) := by decide +kernel
theorem d_Num_findPower_134 : decode b_Num_findPower 134 = .ok (.getfield 93, 3) := by decide +kernel
theorem d_Num_findPower_137 : decode b_Num_findPower 137 = .ok (.bipush 10, 2) := by decide +kernel
theorem d_Num_findPower_139 : decode b_Num_findPower 139 = .ok (.imul, 1) := by decide +kernel
theorem d_Num_findPower_140 : decode b_Num_findPower 140 = .ok (.aload_n 0, 1) := by decide +kernel
theorem d_Num_findPower_141 : decode b_Num_findPower 141 = .ok (.getfield 9, 3) := by decide +kernel
theorem d_Num_findPower_144 : decode b_Num_findPower 144 = .ok (.aload_n 0, 1) := by decide +kernel
theorem d_Num_findPower_145 : decode b_Num_findPower 145 = .ok (.getfield 27, 3) := by decide +kernel
theorem d_Num_findPower_148 : decode b_Num_findPower 148 = .ok (.caload, 1) := by decide +kernel
theorem d_Num_findPower_149 : decode b_Num_findPower 149 = .ok (.invokestatic 89, 3) := by decide +kernel
theorem d_Num_findPower_152 : decode b_Num_findPower 152 = .ok (.iadd, 1) := by decide +kernel
theorem d_Num_findPower_153 : decode b_Num_findPower 153 = .ok (.ldc 96, 2) := by decide +kernel
theorem d_Num_findPower_155 : decode b_Num_findPower 155 = .ok (.invokestatic 46, 3) := by decide +kernel
theorem d_Num_findPower_158 : decode b_Num_findPower 158 = .ok (.putfield 93, 3) := by decide +kernel
theorem d_Num_findPower_161 : decode b_Num_findPower 161 = .ok (.aload_n 0, 1) := by decide +kernel
theorem d_Num_findPower_162 : decode b_Num_findPower 162 = .ok (.dup, 1) := by decide +kernel
theorem d_Num_findPower_163 : decode b_Num_findPower 163 = .ok (.getfield 27, 3) := by decide +kernel
theorem d_Num_findPower_166 : decode b_Num_findPower 166 = .ok (.iconst 1, 1) := by decide +kernel
theorem d_Num_findPower_167 : decode b_Num_findPower 167 = .ok (.iadd, 1) := by decide +kernel
theorem d_Num_findPower_168 : decode b_Num_findPower 168 = .ok (.putfield 27, 3) := by decide +kernel
theorem d_Num_findPower_171 : decode b_Num_findPower 171 = .ok (.goto (-67), 3) := by decide +kernel
theorem d_Num_findPower_174 : decode b_Num_findPower 174 = .ok (.iload_n 2, 1) := by decide +kernel
theorem d_Num_findPower_175 : decode b_Num_findPower 175 = .ok (.ifCond .eq 12, 3) := by decide +kernel
theorem d_Num_findPower_178 : decode b_Num_findPower 178 = .ok (.aload_n 0, 1) := by decide +kernel
theorem d_Num_findPower_179 : decode b_Num_findPower 179 = .ok (.aload_n 0, 1) := by decide +kernel
theorem d_Num_findPower_180 : decode b_Num_findPower 180 = .ok (.getfield 93, 3) := by decide +kernel
theorem d_Num_findPower_183 : decode b_Num_findPower 183 = .ok (.ineg, 1) := by decide +kernel
theorem d_Num_findPower_184 : decode b_Num_findPower 184 = .ok (.putfield 93, 3) := by decide +kernel
theorem d_Num_findPower_187 : decode b_Num_findPower 187 = .ok (.aload_n 0, 1) := by decide +kernel
theorem d_Num_findPower_188 : decode b_Num_findPower 188 = .ok (.getfield 27, 3) := by decide +kernel
theorem d_Num_findPower_191 : decode b_Num_findPower 191 = .ok (.iload_n 3, 1) := by decide +kernel
theorem d_Num_findPower_192 : decode b_Num_findPower 192 = .ok (.if_icmp .le 7, 3) := by decide +kernel
theorem d_Num_findPower_195 : decode b_Num_findPower 195 = .ok (.iconst 1, 1) := by decide +kernel
theorem d_Num_findPower_196 : decode b_Num_findPower 196 = .ok (.goto 4, 3) := by decide +kernel
theorem d_Num_findPower_199 : decode b_Num_findPower 199 = .ok (.iconst 0, 1) := by decide +kernel
theorem d_Num_findPower_200 : decode b_Num_findPower 200 = .ok (.ireturn, 1) := by decide +kernel
theorem d_Num_findLiteral_0 : decode b_Num_findLiteral 0 = .ok (.aload_n 0, 1) := by decide +kernel
theorem d_Num_findLiteral_1 : decode b_Num_findLiteral 1 = .ok (.aload_n 0, 1) := by decide +kernel
theorem d_Num_findLiteral_2 : decode b_Num_findLiteral 2 = .ok (.invokevirtual 65, 3) := by decide +kernel
theorem d_Num_findLiteral_5 : decode b_Num_findLiteral 5 = .ok (.ifCond .eq 7, 3) := by decide +kernel
theorem d_Num_findLiteral_8 : decode b_Num_findLiteral 8 = .ok (.iconst 4, 1) := by decide +kernel
theorem d_Num_findLiteral_9 : decode b_Num_findLiteral 9 = .ok (.goto 4, 3) := by decide +kernel
theorem d_Num_findLiteral_12 : decode b_Num_findLiteral 12 = .ok (.iconst 3, 1) := by decide +kernel
theorem d_Num_findLiteral_13 : decode b_Num_findLiteral 13 = .ok (.putfield 37, 3) := by decide +kernel
theorem d_Num_findLiteral_16 : decode b_Num_findLiteral 16 = .ok (.aload_n 0, 1) := by decide +kernel
theorem d_Num_findLiteral_17 : decode b_Num_findLiteral 17 = .ok (.aload_n 0, 1) := by decide +kernel
theorem d_Num_findLiteral_18 : decode b_Num_findLiteral 18 = .ok (.getfield 37, 3) := by decide +kernel
theorem d_Num_findLiteral_21 : decode b_Num_findLiteral 21 = .ok (.iconst 4, 1) := by decide +kernel
theorem d_Num_findLiteral_22 : decode b_Num_findLiteral 22 = .ok (.if_icmp .ne 8, 3) := by decide +kernel
theorem d_Num_findLiteral_25 : decode b_Num_findLiteral 25 = .ok (.bipush 16, 2) := by decide +kernel
theorem d_Num_findLiteral_27 : decode b_Num_findLiteral 27 = .ok (.goto 5, 3) := by decide +kernel
theorem d_Num_findLiteral_30 : decode b_Num_findLiteral 30 = .ok (.bipush 10, 2) := by decide +kernel
theorem d_Num_findLiteral_32 : decode b_Num_findLiteral 32 = .ok (.invokevirtual 68, 3) := by decide +kernel
theorem d_Num_findLiteral_35 : decode b_Num_findLiteral 35 = .ok (.ifCond .eq 10, 3) := by decide +kernel
theorem d_Num_findLiteral_38 : decode b_Num_findLiteral 38 = .ok (.aload_n 0, 1) := by decide +kernel
theorem d_Num_findLiteral_39 : decode b_Num_findLiteral 39 = .ok (.invokevirtual 72, 3) := by decide +kernel
theorem d_Num_findLiteral_42 : decode b_Num_findLiteral 42 = .ok (.ifCond .ne 5, 3) := by decide +kernel
theorem d_Num_findLiteral_45 : decode b_Num_findLiteral 45 = .ok (.iconst 0, 1) := by decide +kernel
theorem d_Num_findLiteral_46 : decode b_Num_findLiteral 46 = .ok (.ireturn, 1) := by decide +kernel
theorem d_Num_findLiteral_47 : decode b_Num_findLiteral 47 = .ok (.aload_n 0, 1) := by decide +kernel
theorem d_Num_findLiteral_48 : decode b_Num_findLiteral 48 = .ok (.bipush 102, 2) := by decide +kernel
theorem d_Num_findLiteral_50 : decode b_Num_findLiteral 50 = .ok (.bipush 70, 2) := by decide +kernel
theorem d_Num_findLiteral_52 : decode b_Num_findLiteral 52 = .ok (.invokevirtual 75, 3) := by decide +kernel
theorem d_Num_findLiteral_55 : decode b_Num_findLiteral 55 = .ok (.ifCond .ne 14, 3) := by decide +kernel
theorem d_Num_findLiteral_58 : decode b_Num_findLiteral 58 = .ok (.aload_n 0, 1) := by decide +kernel
theorem d_Num_findLiteral_59 : decode b_Num_findLiteral 59 = .ok (.bipush 100, 2) := by decide +kernel
theorem d_Num_findLiteral_61 : decode b_Num_findLiteral 61 = .ok (.bipush 68, 2) := by decide +kernel
theorem d_Num_findLiteral_63 : decode b_Num_findLiteral 63 = .ok (.invokevirtual 75, 3) := by decide +kernel
theorem d_Num_findLiteral_66 : decode b_Num_findLiteral 66 = .ok (.ifCond .eq 13, 3) := by decide +kernel
theorem d_Num_findLiteral_69 : decode b_Num_findLiteral 69 = .ok (.aload_n 0, 1) := by decide +kernel
theorem d_Num_findLiteral_70 : decode b_Num_findLiteral 70 = .ok (.dup, 1) := by decide +kernel
theorem d_Num_findLiteral_71 : decode b_Num_findLiteral 71 = .ok (.getfield 27, 3) := by decide +kernel
theorem d_Num_findLiteral_74 : decode b_Num_findLiteral 74 = .ok (.iconst 1, 1) := by decide +kernel
theorem d_Num_findLiteral_75 : decode b_Num_findLiteral 75 = .ok (.iadd, 1) := by decide +kernel
theorem d_Num_findLiteral_76 : decode b_Num_findLiteral 76 = .ok (.putfield 27, 3) := by decide +kernel
theorem d_Num_findLiteral_79 : decode b_Num_findLiteral 79 = .ok (.aload_n 0, 1) := by decide +kernel
theorem d_Num_findLiteral_80 : decode b_Num_findLiteral 80 = .ok (.getfield 27, 3) := by decide +kernel
theorem d_Num_findLiteral_83 : decode b_Num_findLiteral 83 = .ok (.aload_n 0, 1) := by decide +kernel
theorem d_Num_findLiteral_84 : decode b_Num_findLiteral 84 = .ok (.getfield 52, 3) := by decide +kernel
theorem d_Num_findLiteral_87 : decode b_Num_findLiteral 87 = .ok (.if_icmp .ne 7, 3) := by decide +kernel
theorem d_Num_findLiteral_90 : decode b_Num_findLiteral 90 = .ok (.iconst 1, 1) := by decide +kernel
theorem d_Num_findLiteral_91 : decode b_Num_findLiteral 91 = .ok (.goto 4, 3) := by decide +kernel
theorem d_Num_findLiteral_94 : decode b_Num_findLiteral 94 = .ok (.iconst 0, 1) := by decide +kernel
theorem d_Num_findLiteral_95 : decode b_Num_findLiteral 95 = .ok (.ireturn, 1) := by decide +kernel
theorem d_Num_findIn_0 : decode b_Num_findIn 0 = .ok (.aload_n 0, 1) := by decide +kernel
theorem d_Num_findIn_1 : decode b_Num_findIn 1 = .ok (.iload_n 1, 1) := by decide +kernel
theorem d_Num_findIn_2 : decode b_Num_findIn 2 = .ok (.invokevirtual 15, 3) := by decide +kernel
theorem d_Num_findIn_5 : decode b_Num_findIn 5 = .ok (.aload_n 0, 1) := by decide +kernel
theorem d_Num_findIn_6 : decode b_Num_findIn 6 = .ok (.aload_n 0, 1) := by decide +kernel
theorem d_Num_findIn_7 : decode b_Num_findIn 7 = .ok (.invokevirtual 19, 3) := by decide +kernel
theorem d_Num_findIn_10 : decode b_Num_findIn 10 = .ok (.bipush 45, 2) := by decide +kernel
theorem d_Num_findIn_12 : decode b_Num_findIn 12 = .ok (.if_icmp .ne 7, 3) := by decide +kernel
theorem d_Num_findIn_15 : decode b_Num_findIn 15 = .ok (.iconst 1, 1) := by decide +kernel
theorem d_Num_findIn_16 : decode b_Num_findIn 16 = .ok (.goto 4, 3) := by decide +kernel
theorem d_Num_findIn_19 : decode b_Num_findIn 19 = .ok (.iconst 0, 1) := by decide +kernel
theorem d_Num_findIn_20 : decode b_Num_findIn 20 = .ok (.putfield 23, 3) := by decide +kernel
theorem d_Num_findIn_23 : decode b_Num_findIn 23 = .ok (.aload_n 0, 1) := by decide +kernel
theorem d_Num_findIn_24 : decode b_Num_findIn 24 = .ok (.getfield 23, 3) := by decide +kernel
theorem d_Num_findIn_27 : decode b_Num_findIn 27 = .ok (.ifCond .ne 12, 3) := by decide +kernel
theorem d_Num_findIn_30 : decode b_Num_findIn 30 = .ok (.aload_n 0, 1) := by decide +kernel
theorem d_Num_findIn_31 : decode b_Num_findIn 31 = .ok (.invokevirtual 19, 3) := by decide +kernel
theorem d_Num_findIn_34 : decode b_Num_findIn 34 = .ok (.bipush 43, 2) := by decide +kernel
theorem d_Num_findIn_36 : decode b_Num_findIn 36 = .ok (.if_icmp .ne 13, 3) := by decide +kernel
theorem d_Num_findIn_39 : decode b_Num_findIn 39 = .ok (.aload_n 0, 1) := by decide +kernel
theorem d_Num_findIn_40 : decode b_Num_findIn 40 = .ok (.dup, 1) := by decide +kernel
theorem d_Num_findIn_41 : decode b_Num_findIn 41 = .ok (.getfield 27, 3) := by decide +kernel
theorem d_Num_findIn_44 : decode b_Num_findIn 44 = .ok (.iconst 1, 1) := by decide +kernel
theorem d_Num_findIn_45 : decode b_Num_findIn 45 = .ok (.iadd, 1) := by decide +kernel
theorem d_Num_findIn_46 : decode b_Num_findIn 46 = .ok (.putfield 27, 3) := by decide +kernel
theorem d_Num_findIn_49 : decode b_Num_findIn 49 = .ok (.aload_n 0, 1) := by decide +kernel
theorem d_Num_findIn_50 : decode b_Num_findIn 50 = .ok (.ldc 31, 2) := by decide +kernel
theorem d_Num_findIn_52 : decode b_Num_findIn 52 = .ok (.invokevirtual 33, 3) := by decide +kernel
theorem d_Num_findIn_55 : decode b_Num_findIn 55 = .ok (.ifCond .eq 10, 3) := by decide +kernel
theorem d_Num_findIn_58 : decode b_Num_findIn 58 = .ok (.aload_n 0, 1) := by decide +kernel
theorem d_Num_findIn_59 : decode b_Num_findIn 59 = .ok (.iconst 1, 1) := by decide +kernel
theorem d_Num_findIn_60 : decode b_Num_findIn 60 = .ok (.putfield 37, 3) := by decide +kernel
theorem d_Num_findIn_63 : decode b_Num_findIn 63 = .ok (.iconst 1, 1) := by decide +kernel
theorem d_Num_findIn_64 : decode b_Num_findIn 64 = .ok (.ireturn, 1) := by decide +kernel
theorem d_Num_findIn_65 : decode b_Num_findIn 65 = .ok (.aload_n 0, 1) := by decide +kernel
theorem d_Num_findIn_66 : decode b_Num_findIn 66 = .ok (.ldc 40, 2) := by decide +kernel
theorem d_Num_findIn_68 : decode b_Num_findIn 68 = .ok (.invokevirtual 33, 3) := by decide +kernel
theorem d_Num_findIn_71 : decode b_Num_findIn 71 = .ok (.ifCond .eq 10, 3) := by decide +kernel
theorem d_Num_findIn_74 : decode b_Num_findIn 74 = .ok (.aload_n 0, 1) := by decide +kernel
theorem d_Num_findIn_75 : decode b_Num_findIn 75 = .ok (.iconst 2, 1) := by decide +kernel
theorem d_Num_findIn_76 : decode b_Num_findIn 76 = .ok (.putfield 37, 3) := by decide +kernel
theorem d_Num_findIn_79 : decode b_Num_findIn 79 = .ok (.iconst 1, 1) := by decide +kernel
theorem d_Num_findIn_80 : decode b_Num_findIn 80 = .ok (.ireturn, 1) := by decide +kernel
theorem d_Num_findIn_81 : decode b_Num_findIn 81 = .ok (.aload_n 0, 1) := by decide +kernel
theorem d_Num_findIn_82 : decode b_Num_findIn 82 = .ok (.invokevirtual 42, 3) := by decide +kernel
theorem d_Num_findIn_85 : decode b_Num_findIn 85 = .ok (.ireturn, 1) := by decide +kernel
set_option maxHeartbeats 4000000 in
set_option maxRecDepth 100000 in
theorem c_Num_findPower (l : Launch) (D : va_G) (E : evD) (nm x : Nat) (cC : ClassId) (T : Nat → Nat) (hT : ∀ j, T j < 256) (mi fo fr to po : Int32) (a e : Nat) (hae : a ≤ e) (he : e ≤ 2400) (hex : Bool) : Ci (S := Unit) l y_Num_findPower (wz y_Num_findPower b_Num_findPower 4 (some .boolean)) ({ frames := 2, cells := 0, slots := 0, locals := 42 }) D vcl (ev1 E) [.ref nm] [(cC, .char)] [(nm, .inr (3, [.ref x, .int (nI a), .int (nI e), .int mi, .int (nI (if hex then 4 else 3)), .int fr, .int to, .int po])), (x, .inl (cC, 2400, .inl (tx T)))] 0 0 (fun (r : Int32) (_ : Unit) => r = bI (pOk hex T e a)) (fun _ => [(cC, .char)]) (fun _ : Unit => [(nm, .inr (3, [.ref x, .int (nI (pAt hex T e a)), .int (nI e), .int mi, .int (nI (if hex then 4 else 3)), .int fr, .int to, .int (zI (pPw 1000000 hex T e a))])), (x, .inl (cC, 2400, .inl (tx T)))]) := by
  have hev := ev1_ok E
  unfold Ci
  refine ct_of (y := y_Num_findPower) (av := [.ref nm]) (cc := b_Num_findPower) (maxL := 4) (ret := (some .boolean)) (Qc := fun A => va_Qi (S := Unit) (fun (r : Int32) (_ : Unit) => r = bI (pOk hex T e a)) (fun u tS => ctB D vcl ((fun _ => [(cC, .char)]) u) ((fun _ : Unit => [(nm, .inr (3, [.ref x, .int (nI (pAt hex T e a)), .int (nI e), .int mi, .int (nI (if hex then 4 else 3)), .int fr, .int to, .int (zI (pPw 1000000 hex T e a))])), (x, .inl (cC, 2400, .inl (tx T)))]) u) A tS) A) (by decide) rfl (Nat.le_of_ble_eq_true rfl) ?_
  intro p ee s m below meth cde ls A H locs hx hb hml hrt hlocks hown hin hts hA hP hK hD hS hE hl
  have hown : s.vm.findClass R_Num = some m.cls := hown
  have hts := wz_g hts
  have hl : lv_has ls 4 [(0, .ref nm)] := hl
  have hlb := lk_b hT e (a + 1)
  refine lv_aload_n hx hb d_Num_findPower_0 rfl (lv_at hl 0 rfl) ?_
  refine lv_iconst (v := 0) hx hb d_Num_findPower_1 (by decide) ?_
  refine tv_i (zI 0) (rfl) ?_
  refine va_put (D := D) (ci := 3) (v := .int (zI 0)) (ty := .int) (C := R_Num) (T := F_Num) (N := 8) hx hb hts w_Num t_Num tk_Num n_Num hown hK hP hD hS 0 rfl rfl 7 (by decide) (hts _ kF_Num_93) (fun _ h9 => h9) rfl (by decide +kernel) (rfl) (rfl) (Nat.le_of_ble_eq_true rfl) d_Num_findPower_2 (fun H locs hP hD hS => ?_)
  have hP : va_P D vcl [(nm, .inr (3, [.ref x, .int (nI a), .int (nI e), .int mi, .int (nI (if hex then 4 else 3)), .int fr, .int to, .int (zI 0)])), (x, .inl (cC, 2400, .inl (tx T)))] H := hP
  have hD : va_D A [(nm, .inr (3, [.ref x, .int (nI a), .int (nI e), .int mi, .int (nI (if hex then 4 else 3)), .int fr, .int to, .int (zI 0)])), (x, .inl (cC, 2400, .inl (tx T)))] := hD
  refine lv_aload_n hx hb d_Num_findPower_5 rfl (lv_at hl 0 rfl) ?_
  refine va_get (D := D) (ci := 3) (v := .int (nI (if hex then 4 else 3))) (C := R_Num) (T := F_Num) (N := 8) hx hb hts w_Num hown hK hP 0 rfl rfl 4 (by decide) (hts _ kF_Num_37) (fun _ h9 => h9) rfl d_Num_findPower_6 ?_
  refine lv_iconst (v := 4) hx hb d_Num_findPower_9 (by decide) ?_
  refine lv_icmp_ne (tgt := 24) hx hb d_Num_findPower_10 (by decide) (fun c10 => ?_) (fun c10 => ?_)
  · have e10 : hex = false := by cases hex; (· rfl); exact absurd rfl c10
    refine lv_aload_n hx hb d_Num_findPower_24 rfl (lv_at hl 0 rfl) ?_
    refine lv_bipush (v := 101) hx hb d_Num_findPower_25 (by decide) ?_
    refine lv_bipush (v := 69) hx hb d_Num_findPower_27 (by decide) ?_
    refine ca_i [] (va_runV (As := [.int 101, .int 69]) (rest := []) ⟨hx, hb, hml, hown, hts⟩ (c_Num_isHere l D E nm x cC T hT mi (nI (if hex then 4 else 3)) fr to (zI 0) a e (hae) (he) 101 69 (by decide) (by decide) H.size) (xV 2 hts kC_Num_isHere kM_Num_75 kI_Num_isHere kS_Num_isHere kN_Num rfl rfl (by decide +kernel) ⟨Nat.le_of_ble_eq_true rfl, Nat.le_of_ble_eq_true rfl⟩) ⟨ct_blind hev, va_recv hK hP (ci := 3) (q0 := 0) rfl rfl, ct_pre hev hP hK hD hS hA hE [0, 1] rfl (by decide) [0] rfl⟩ rfl rfl hl.1 rfl (lv_room (Nat.le_of_ble_eq_true rfl)) d_Num_findPower_29 ⟨Nat.le_of_ble_eq_true rfl, Nat.le_of_ble_eq_true rfl⟩) hP hD hS hA [0, 1] [] rfl rfl (by decide) (by decide) (fun rv u H locs hw hP hD hS hK1 => ?_)
    subst hw
    have hP : va_P D vcl [(nm, .inr (3, [.ref x, .int (nI a), .int (nI e), .int mi, .int (nI (if hex then 4 else 3)), .int fr, .int to, .int (zI 0)])), (x, .inl (cC, 2400, .inl (tx T)))] H := hP
    have hD : va_D A [(nm, .inr (3, [.ref x, .int (nI a), .int (nI e), .int mi, .int (nI (if hex then 4 else 3)), .int fr, .int to, .int (zI 0)])), (x, .inl (cC, 2400, .inl (tx T)))] := hD
    refine tv_i (bI (mkB hex T e a)) (by unfold mkB; rw [e10]; rfl) ?_
    refine lv_istore_n (lv' := [(1, .int (bI (mkB hex T e a))), (0, .ref nm)]) hx hb d_Num_findPower_32 rfl hl (by decide) rfl (fun ls hl => ?_)
    refine lv_iload_n hx hb d_Num_findPower_33 rfl (lv_at hl 0 rfl) ?_
    refine lv_if_ne (tgt := 51) hx hb d_Num_findPower_34 (by decide) (fun c34 => ?_) (fun c34 => ?_)
    · have e34 : mkB hex T e a = true := tt_of (fun z => c34 ((bI_0 _).mpr z))
      have hmk := mk_lt e34
      have hps := pS_le (T := T) hmk
      refine lv_aload_n hx hb d_Num_findPower_51 rfl (lv_at hl 1 rfl) ?_
      refine lv_dup hx hb d_Num_findPower_52 rfl ?_
      refine va_get (D := D) (ci := 3) (v := .int (nI a)) (C := R_Num) (T := F_Num) (N := 8) hx hb hts w_Num hown hK hP 0 rfl rfl 1 (by decide) (hts _ kF_Num_27) (fun _ h9 => h9) rfl d_Num_findPower_53 ?_
      refine lv_iconst (v := 1) hx hb d_Num_findPower_56 (by decide) ?_
      refine lv_iadd hx hb d_Num_findPower_57 ?_
      refine tv_i (nI (a + 1)) (nI_1 a) ?_
      refine va_put (D := D) (ci := 3) (v := .int (nI (a + 1))) (ty := .int) (C := R_Num) (T := F_Num) (N := 8) hx hb hts w_Num t_Num tk_Num n_Num hown hK hP hD hS 0 rfl rfl 1 (by decide) (hts _ kF_Num_27) (fun _ h9 => h9) rfl (by decide +kernel) (rfl) (rfl) (Nat.le_of_ble_eq_true rfl) d_Num_findPower_58 (fun H locs hP hD hS => ?_)
      have hP : va_P D vcl [(nm, .inr (3, [.ref x, .int (nI (a + 1)), .int (nI e), .int mi, .int (nI (if hex then 4 else 3)), .int fr, .int to, .int (zI 0)])), (x, .inl (cC, 2400, .inl (tx T)))] H := hP
      have hD : va_D A [(nm, .inr (3, [.ref x, .int (nI (a + 1)), .int (nI e), .int mi, .int (nI (if hex then 4 else 3)), .int fr, .int to, .int (zI 0)])), (x, .inl (cC, 2400, .inl (tx T)))] := hD
      refine lv_aload_n hx hb d_Num_findPower_61 rfl (lv_at hl 1 rfl) ?_
      refine ca_i [] (va_runV (As := []) (rest := []) ⟨hx, hb, hml, hown, hts⟩ (c_Num_here l D E nm x cC T hT mi (nI (if hex then 4 else 3)) fr to (zI 0) (a + 1) e (by omega) (he) H.size) (xV 0 hts kC_Num_here kM_Num_19 kI_Num_here kS_Num_here kN_Num rfl rfl (by decide +kernel) ⟨Nat.le_of_ble_eq_true rfl, Nat.le_of_ble_eq_true rfl⟩) ⟨ct_blind hev, va_recv hK hP (ci := 3) (q0 := 0) rfl rfl, ct_pre hev hP hK hD hS hA hE [0, 1] rfl (by decide) [0] rfl⟩ rfl rfl hl.1 rfl (lv_room (Nat.le_of_ble_eq_true rfl)) d_Num_findPower_62 ⟨Nat.le_of_ble_eq_true rfl, Nat.le_of_ble_eq_true rfl⟩) hP hD hS hA [0, 1] [] rfl rfl (by decide) (by decide) (fun rv u H locs hw hP hD hS hK1 => ?_)
      subst hw
      have hP : va_P D vcl [(nm, .inr (3, [.ref x, .int (nI (a + 1)), .int (nI e), .int mi, .int (nI (if hex then 4 else 3)), .int fr, .int to, .int (zI 0)])), (x, .inl (cC, 2400, .inl (tx T)))] H := hP
      have hD : va_D A [(nm, .inr (3, [.ref x, .int (nI (a + 1)), .int (nI e), .int mi, .int (nI (if hex then 4 else 3)), .int fr, .int to, .int (zI 0)])), (x, .inl (cC, 2400, .inl (tx T)))] := hD
      refine lv_bipush (v := 45) hx hb d_Num_findPower_65 (by decide) ?_
      refine lv_icmp_ne (tgt := 74) hx hb d_Num_findPower_67 (by decide) (fun c67 => ?_) (fun c67 => ?_)
      · have e67 : ¬ lk T e (a + 1) = 45 := fun z => c67 (by rw [z]; rfl)
        refine lv_iconst (v := 0) hx hb d_Num_findPower_74 (by decide) ?_
        refine tv_i (bI (ngB T e a)) (by rw [show ngB T e a = false from decide_eq_false e67]; rfl) ?_
        refine lv_istore_n (lv' := [(2, .int (bI (ngB T e a))), (1, .int (bI (mkB hex T e a))), (0, .ref nm)]) hx hb d_Num_findPower_75 rfl hl (by decide) rfl (fun ls hl => ?_)
        refine lv_iload_n hx hb d_Num_findPower_76 rfl (lv_at hl 0 rfl) ?_
        refine lv_if_ne (tgt := 89) hx hb d_Num_findPower_77 (by decide) (fun c77 => ?_) (fun c77 => ?_)
        · exact absurd ((bI_0 _).mpr (decide_eq_false e67)) c77
        · refine lv_aload_n hx hb d_Num_findPower_80 rfl (lv_at hl 2 rfl) ?_
          refine ca_i [] (va_runV (As := []) (rest := []) ⟨hx, hb, hml, hown, hts⟩ (c_Num_here l D E nm x cC T hT mi (nI (if hex then 4 else 3)) fr to (zI 0) (a + 1) e (by omega) (he) H.size) (xV 0 hts kC_Num_here kM_Num_19 kI_Num_here kS_Num_here kN_Num rfl rfl (by decide +kernel) ⟨Nat.le_of_ble_eq_true rfl, Nat.le_of_ble_eq_true rfl⟩) ⟨ct_blind hev, va_recv hK hP (ci := 3) (q0 := 0) rfl rfl, ct_pre hev hP hK hD hS hA hE [0, 1] rfl (by decide) [0] rfl⟩ rfl rfl hl.1 rfl (lv_room (Nat.le_of_ble_eq_true rfl)) d_Num_findPower_81 ⟨Nat.le_of_ble_eq_true rfl, Nat.le_of_ble_eq_true rfl⟩) hP hD hS hA [0, 1] [] rfl rfl (by decide) (by decide) (fun rv u H locs hw hP hD hS hK1 => ?_)
          subst hw
          have hP : va_P D vcl [(nm, .inr (3, [.ref x, .int (nI (a + 1)), .int (nI e), .int mi, .int (nI (if hex then 4 else 3)), .int fr, .int to, .int (zI 0)])), (x, .inl (cC, 2400, .inl (tx T)))] H := hP
          have hD : va_D A [(nm, .inr (3, [.ref x, .int (nI (a + 1)), .int (nI e), .int mi, .int (nI (if hex then 4 else 3)), .int fr, .int to, .int (zI 0)])), (x, .inl (cC, 2400, .inl (tx T)))] := hD
          refine lv_bipush (v := 43) hx hb d_Num_findPower_84 (by decide) ?_
          refine lv_icmp_ne (tgt := 99) hx hb d_Num_findPower_86 (by decide) (fun c86 => ?_) (fun c86 => ?_)
          · have e86 : ¬ lk T e (a + 1) = 43 := fun z => c86 (by rw [z]; rfl)
            have hps2 : pS T e a = a + 1 := by unfold pS; rw [if_neg (fun z => z.elim e67 e86)]
            rw [← hps2] at hP hD
            rw [show zI 0 = zI ((min (xv T (pS T e a) (pS T e a - pS T e a)) 1000000 : Nat) : Int) from by rw [Nat.sub_self]; rfl] at hP hD
            refine lv_aload_n hx hb d_Num_findPower_99 rfl (lv_at hl 2 rfl) ?_
            refine va_get (D := D) (ci := 3) (v := .int (nI (pS T e a))) (C := R_Num) (T := F_Num) (N := 8) hx hb hts w_Num hown hK hP 0 rfl rfl 1 (by decide) (hts _ kF_Num_27) (fun _ h9 => h9) rfl d_Num_findPower_100 ?_
            refine lv_istore_n (lv' := [(3, .int (nI (pS T e a))), (2, .int (bI (ngB T e a))), (1, .int (bI (mkB hex T e a))), (0, .ref nm)]) hx hb d_Num_findPower_103 rfl hl (by decide) rfl (fun ls hl => ?_)
            have L104 : ∀ (kk : Nat) (k : Nat), e - k < kk → (pS T e a ≤ k) → (k ≤ e) → (sk 10 T e k = sk 10 T e (pS T e a)) → ∀ (H : Heap) (locs : List Loc) (ls : Array Slot), va_P D vcl [(nm, .inr (3, [.ref x, .int (nI k), .int (nI e), .int mi, .int (nI (if hex then 4 else 3)), .int fr, .int to, .int (zI ((min (xv T (pS T e a) (k - pS T e a)) 1000000 : Nat) : Int))])), (x, .inl (cC, 2400, .inl (tx T)))] H → va_D A [(nm, .inr (3, [.ref x, .int (nI k), .int (nI e), .int mi, .int (nI (if hex then 4 else 3)), .int fr, .int to, .int (zI ((min (xv T (pS T e a) (k - pS T e a)) 1000000 : Nat) : Int))])), (x, .inl (cC, 2400, .inl (tx T)))] → va_S A s.heap H locs → lv_has ls 4 [(0, .ref nm), (2, .int (bI (ngB T e a))), (3, .int (nI (pS T e a)))] → W p l ee ({ frames := 2, cells := 0, slots := 0, locals := 42 }) s m ([.ref nm] : List Value).toArray below meth cde H locs 0 0 (MQ below (va_Qi (S := Unit) (fun (r : Int32) (_ : Unit) => r = bI (pOk hex T e a)) (fun u tS => ctB D vcl ((fun _ => [(cC, .char)]) u) ((fun _ : Unit => [(nm, .inr (3, [.ref x, .int (nI (pAt hex T e a)), .int (nI e), .int mi, .int (nI (if hex then 4 else 3)), .int fr, .int to, .int (zI (pPw 1000000 hex T e a))])), (x, .inl (cC, 2400, .inl (tx T)))]) u) A tS) A) ([.ref nm] : List Value).toArray s 0 0 A) (F0 m 104 ls []) := by
              intro kk
              induction kk with
              | zero => intro k hmz; exact absurd hmz (Nat.not_lt_zero _)
              | succ kk ih =>
                intro k hmz hk1 hke hv H locs ls hP hD hS hl
                refine lv_aload_n hx hb d_Num_findPower_104 rfl (lv_at hl 0 rfl) ?_
                refine va_get (D := D) (ci := 3) (v := .int (nI k)) (C := R_Num) (T := F_Num) (N := 8) hx hb hts w_Num hown hK hP 0 rfl rfl 1 (by decide) (hts _ kF_Num_27) (fun _ h9 => h9) rfl d_Num_findPower_105 ?_
                refine lv_aload_n hx hb d_Num_findPower_108 rfl (lv_at hl 0 rfl) ?_
                refine va_get (D := D) (ci := 3) (v := .int (nI e)) (C := R_Num) (T := F_Num) (N := 8) hx hb hts w_Num hown hK hP 0 rfl rfl 2 (by decide) (hts _ kF_Num_52) (fun _ h9 => h9) rfl d_Num_findPower_109 ?_
                refine lv_icmp_ge (tgt := 174) hx hb d_Num_findPower_112 (by decide) (fun c112 => ?_) (fun c112 => ?_)
                · have e112 : e ≤ k := (nI_leI (by omega) (by omega)).mp c112
                  have hkx : k = pX T e a := by unfold pX; rw [← hv]; exact (sk_f (fun z => absurd z.1 (by omega))).symm
                  rw [hkx] at hP hD
                  have hP : va_P D vcl [(nm, .inr (3, [.ref x, .int (nI (pX T e a)), .int (nI e), .int mi, .int (nI (if hex then 4 else 3)), .int fr, .int to, .int (zI ((min (pE T e a) 1000000 : Nat) : Int))])), (x, .inl (cC, 2400, .inl (tx T)))] H := hP
                  have hD : va_D A [(nm, .inr (3, [.ref x, .int (nI (pX T e a)), .int (nI e), .int mi, .int (nI (if hex then 4 else 3)), .int fr, .int to, .int (zI ((min (pE T e a) 1000000 : Nat) : Int))])), (x, .inl (cC, 2400, .inl (tx T)))] := hD
                  refine lv_iload_n hx hb d_Num_findPower_174 rfl (lv_at hl 1 rfl) ?_
                  refine lv_if_eq (tgt := 187) hx hb d_Num_findPower_175 (by decide) (fun c175 => ?_) (fun c175 => ?_)
                  · have e175 : ngB T e a = false := (bI_0 _).mp c175
                    refine lv_aload_n hx hb d_Num_findPower_187 rfl (lv_at hl 0 rfl) ?_
                    refine va_get (D := D) (ci := 3) (v := .int (nI (pX T e a))) (C := R_Num) (T := F_Num) (N := 8) hx hb hts w_Num hown hK hP 0 rfl rfl 1 (by decide) (hts _ kF_Num_27) (fun _ h9 => h9) rfl d_Num_findPower_188 ?_
                    refine lv_iload_n hx hb d_Num_findPower_191 rfl (lv_at hl 2 rfl) ?_
                    refine lv_icmp_le (tgt := 199) hx hb d_Num_findPower_192 (by decide) (fun c192 => ?_) (fun c192 => ?_)
                    · have e192 : pX T e a ≤ pS T e a := (nI_leI (by omega) (by omega)).mp c192
                      refine lv_iconst (v := 0) hx hb d_Num_findPower_199 (by decide) ?_
                      rw [show nI (pX T e a) = nI (pAt hex T e a) by unfold pAt; rw [e34]; rfl, show zI ((min (pE T e a) 1000000 : Nat) : Int) = zI (pPw 1000000 hex T e a) by unfold pPw; rw [e34, e175]; rfl] at hP hD
                      exact rt_i hx hb hrt hlocks (rfl) (()) (by unfold pOk; rw [e34]; show 0 = bI (decide (pS T e a < pX T e a)); rw [decide_eq_false (by omega)]; rfl) (hP.sub [0, 1] rfl) (hK.sub [0] rfl) (hD.sub [0, 1] (by decide) rfl) hS d_Num_findPower_200
                    · have e192 : ¬ pX T e a ≤ pS T e a := fun z => c192 ((nI_leI (by omega) (by omega)).mpr z)
                      refine lv_iconst (v := 1) hx hb d_Num_findPower_195 (by decide) ?_
                      refine lv_goto (tgt := 200) hx hb d_Num_findPower_196 (by decide) ?_
                      rw [show nI (pX T e a) = nI (pAt hex T e a) by unfold pAt; rw [e34]; rfl, show zI ((min (pE T e a) 1000000 : Nat) : Int) = zI (pPw 1000000 hex T e a) by unfold pPw; rw [e34, e175]; rfl] at hP hD
                      exact rt_i hx hb hrt hlocks (rfl) (()) (by unfold pOk; rw [e34]; show 1 = bI (decide (pS T e a < pX T e a)); rw [decide_eq_true (by omega)]; rfl) (hP.sub [0, 1] rfl) (hK.sub [0] rfl) (hD.sub [0, 1] (by decide) rfl) hS d_Num_findPower_200
                  · have e175 : ngB T e a = true := tt_of (fun z => c175 ((bI_0 _).mpr z))
                    refine lv_aload_n hx hb d_Num_findPower_178 rfl (lv_at hl 0 rfl) ?_
                    refine lv_aload_n hx hb d_Num_findPower_179 rfl (lv_at hl 0 rfl) ?_
                    refine va_get (D := D) (ci := 3) (v := .int (zI ((min (pE T e a) 1000000 : Nat) : Int))) (C := R_Num) (T := F_Num) (N := 8) hx hb hts w_Num hown hK hP 0 rfl rfl 7 (by decide) (hts _ kF_Num_93) (fun _ h9 => h9) rfl d_Num_findPower_180 ?_
                    refine lv_ineg hx hb d_Num_findPower_183 ?_
                    refine tv_i (zI (-((min (pE T e a) 1000000 : Nat) : Int))) (zI_neg _) ?_
                    refine va_put (D := D) (ci := 3) (v := .int (zI (-((min (pE T e a) 1000000 : Nat) : Int)))) (ty := .int) (C := R_Num) (T := F_Num) (N := 8) hx hb hts w_Num t_Num tk_Num n_Num hown hK hP hD hS 0 rfl rfl 7 (by decide) (hts _ kF_Num_93) (fun _ h9 => h9) rfl (by decide +kernel) (rfl) (rfl) (Nat.le_of_ble_eq_true rfl) d_Num_findPower_184 (fun H locs hP hD hS => ?_)
                    have hP : va_P D vcl [(nm, .inr (3, [.ref x, .int (nI (pX T e a)), .int (nI e), .int mi, .int (nI (if hex then 4 else 3)), .int fr, .int to, .int (zI (-((min (pE T e a) 1000000 : Nat) : Int)))])), (x, .inl (cC, 2400, .inl (tx T)))] H := hP
                    have hD : va_D A [(nm, .inr (3, [.ref x, .int (nI (pX T e a)), .int (nI e), .int mi, .int (nI (if hex then 4 else 3)), .int fr, .int to, .int (zI (-((min (pE T e a) 1000000 : Nat) : Int)))])), (x, .inl (cC, 2400, .inl (tx T)))] := hD
                    refine lv_aload_n hx hb d_Num_findPower_187 rfl (lv_at hl 0 rfl) ?_
                    refine va_get (D := D) (ci := 3) (v := .int (nI (pX T e a))) (C := R_Num) (T := F_Num) (N := 8) hx hb hts w_Num hown hK hP 0 rfl rfl 1 (by decide) (hts _ kF_Num_27) (fun _ h9 => h9) rfl d_Num_findPower_188 ?_
                    refine lv_iload_n hx hb d_Num_findPower_191 rfl (lv_at hl 2 rfl) ?_
                    refine lv_icmp_le (tgt := 199) hx hb d_Num_findPower_192 (by decide) (fun c192 => ?_) (fun c192 => ?_)
                    · have e192 : pX T e a ≤ pS T e a := (nI_leI (by omega) (by omega)).mp c192
                      refine lv_iconst (v := 0) hx hb d_Num_findPower_199 (by decide) ?_
                      rw [show nI (pX T e a) = nI (pAt hex T e a) by unfold pAt; rw [e34]; rfl, show zI (-((min (pE T e a) 1000000 : Nat) : Int)) = zI (pPw 1000000 hex T e a) by unfold pPw; rw [e34, e175]; rfl] at hP hD
                      exact rt_i hx hb hrt hlocks (rfl) (()) (by unfold pOk; rw [e34]; show 0 = bI (decide (pS T e a < pX T e a)); rw [decide_eq_false (by omega)]; rfl) (hP.sub [0, 1] rfl) (hK.sub [0] rfl) (hD.sub [0, 1] (by decide) rfl) hS d_Num_findPower_200
                    · have e192 : ¬ pX T e a ≤ pS T e a := fun z => c192 ((nI_leI (by omega) (by omega)).mpr z)
                      refine lv_iconst (v := 1) hx hb d_Num_findPower_195 (by decide) ?_
                      refine lv_goto (tgt := 200) hx hb d_Num_findPower_196 (by decide) ?_
                      rw [show nI (pX T e a) = nI (pAt hex T e a) by unfold pAt; rw [e34]; rfl, show zI (-((min (pE T e a) 1000000 : Nat) : Int)) = zI (pPw 1000000 hex T e a) by unfold pPw; rw [e34, e175]; rfl] at hP hD
                      exact rt_i hx hb hrt hlocks (rfl) (()) (by unfold pOk; rw [e34]; show 1 = bI (decide (pS T e a < pX T e a)); rw [decide_eq_true (by omega)]; rfl) (hP.sub [0, 1] rfl) (hK.sub [0] rfl) (hD.sub [0, 1] (by decide) rfl) hS d_Num_findPower_200
                · have e112 : k < e := Nat.lt_of_not_le (fun z => c112 ((nI_leI (by omega) (by omega)).mpr z))
                  refine lv_aload_n hx hb d_Num_findPower_115 rfl (lv_at hl 0 rfl) ?_
                  refine va_get (D := D) (ci := 3) (v := .ref x) (C := R_Num) (T := F_Num) (N := 8) hx hb hts w_Num hown hK hP 0 rfl rfl 0 (by decide) (hts _ kF_Num_9) (fun _ h9 => h9) rfl d_Num_findPower_116 ?_
                  refine lv_aload_n hx hb d_Num_findPower_119 rfl (lv_at hl 0 rfl) ?_
                  refine va_get (D := D) (ci := 3) (v := .int (nI k)) (C := R_Num) (T := F_Num) (N := 8) hx hb hts w_Num hown hK hP 0 rfl rfl 1 (by decide) (hts _ kF_Num_27) (fun _ h9 => h9) rfl d_Num_findPower_120 ?_
                  refine va_cald hx hb hK hP 1 0 rfl rfl (i := nI k) (vp_in_nI (show k < 2400 by omega) (by decide)) d_Num_findPower_123 ?_
                  refine tv_i (nI (T (k))) (by rw [nI_clamp (by omega)]; rfl) ?_
                  refine ca_i [(nm, .inr (3, [.ref x, .int (nI k), .int (nI e), .int mi, .int (nI (if hex then 4 else 3)), .int fr, .int to, .int (zI ((min (xv T (pS T e a) (k - pS T e a)) 1000000 : Nat) : Int))])), (x, .inl (cC, 2400, .inl (tx T)))] (va_runSN (As := [.int (nI (T (k)))]) (rest := []) ⟨hx, hb, hml, hown, hts⟩ (c_Rea_digitOf l D E (T (k)) (by have := hT k; omega) H.size) (xSN 1 hts kC_Rea_digitOf hE.1.1 kT_Rea_digitOf kN_Rea rfl rfl (by decide +kernel) ⟨Nat.le_of_ble_eq_true rfl, Nat.le_of_ble_eq_true rfl⟩) ⟨ct_blind hev, ct_pre hev hP hK hD hS hA hE [] rfl (by decide) [] rfl⟩ rfl rfl hl.1 rfl (lv_room (Nat.le_of_ble_eq_true rfl)) d_Num_findPower_124 ⟨Nat.le_of_ble_eq_true rfl, Nat.le_of_ble_eq_true rfl⟩) hP hD hS hA [] [0, 1] rfl rfl (by decide) (by decide) (fun rv u H locs hw hP hD hS hK1 => ?_)
                  subst hw
                  have hP : va_P D vcl [(nm, .inr (3, [.ref x, .int (nI k), .int (nI e), .int mi, .int (nI (if hex then 4 else 3)), .int fr, .int to, .int (zI ((min (xv T (pS T e a) (k - pS T e a)) 1000000 : Nat) : Int))])), (x, .inl (cC, 2400, .inl (tx T)))] H := hP
                  have hD : va_D A [(nm, .inr (3, [.ref x, .int (nI k), .int (nI e), .int mi, .int (nI (if hex then 4 else 3)), .int fr, .int to, .int (zI ((min (xv T (pS T e a) (k - pS T e a)) 1000000 : Nat) : Int))])), (x, .inl (cC, 2400, .inl (tx T)))] := hD
                  refine lv_bipush (v := 10) hx hb d_Num_findPower_127 (by decide) ?_
                  refine lv_icmp_ge (tgt := 174) hx hb d_Num_findPower_129 (by decide) (fun c129 => ?_) (fun c129 => ?_)
                  · have e129 : 10 ≤ dg (T k) := (nI_leI (a := 10) (by decide) (by have := dg_le (T k); omega)).mp c129
                    have hkx : k = pX T e a := by unfold pX; rw [← hv]; exact (sk_f (fun z => absurd z.2 (by omega))).symm
                    rw [hkx] at hP hD
                    have hP : va_P D vcl [(nm, .inr (3, [.ref x, .int (nI (pX T e a)), .int (nI e), .int mi, .int (nI (if hex then 4 else 3)), .int fr, .int to, .int (zI ((min (pE T e a) 1000000 : Nat) : Int))])), (x, .inl (cC, 2400, .inl (tx T)))] H := hP
                    have hD : va_D A [(nm, .inr (3, [.ref x, .int (nI (pX T e a)), .int (nI e), .int mi, .int (nI (if hex then 4 else 3)), .int fr, .int to, .int (zI ((min (pE T e a) 1000000 : Nat) : Int))])), (x, .inl (cC, 2400, .inl (tx T)))] := hD
                    refine lv_iload_n hx hb d_Num_findPower_174 rfl (lv_at hl 1 rfl) ?_
                    refine lv_if_eq (tgt := 187) hx hb d_Num_findPower_175 (by decide) (fun c175 => ?_) (fun c175 => ?_)
                    · have e175 : ngB T e a = false := (bI_0 _).mp c175
                      refine lv_aload_n hx hb d_Num_findPower_187 rfl (lv_at hl 0 rfl) ?_
                      refine va_get (D := D) (ci := 3) (v := .int (nI (pX T e a))) (C := R_Num) (T := F_Num) (N := 8) hx hb hts w_Num hown hK hP 0 rfl rfl 1 (by decide) (hts _ kF_Num_27) (fun _ h9 => h9) rfl d_Num_findPower_188 ?_
                      refine lv_iload_n hx hb d_Num_findPower_191 rfl (lv_at hl 2 rfl) ?_
                      refine lv_icmp_le (tgt := 199) hx hb d_Num_findPower_192 (by decide) (fun c192 => ?_) (fun c192 => ?_)
                      · have e192 : pX T e a ≤ pS T e a := (nI_leI (by omega) (by omega)).mp c192
                        refine lv_iconst (v := 0) hx hb d_Num_findPower_199 (by decide) ?_
                        rw [show nI (pX T e a) = nI (pAt hex T e a) by unfold pAt; rw [e34]; rfl, show zI ((min (pE T e a) 1000000 : Nat) : Int) = zI (pPw 1000000 hex T e a) by unfold pPw; rw [e34, e175]; rfl] at hP hD
                        exact rt_i hx hb hrt hlocks (rfl) (()) (by unfold pOk; rw [e34]; show 0 = bI (decide (pS T e a < pX T e a)); rw [decide_eq_false (by omega)]; rfl) (hP.sub [0, 1] rfl) (hK.sub [0] rfl) (hD.sub [0, 1] (by decide) rfl) hS d_Num_findPower_200
                      · have e192 : ¬ pX T e a ≤ pS T e a := fun z => c192 ((nI_leI (by omega) (by omega)).mpr z)
                        refine lv_iconst (v := 1) hx hb d_Num_findPower_195 (by decide) ?_
                        refine lv_goto (tgt := 200) hx hb d_Num_findPower_196 (by decide) ?_
                        rw [show nI (pX T e a) = nI (pAt hex T e a) by unfold pAt; rw [e34]; rfl, show zI ((min (pE T e a) 1000000 : Nat) : Int) = zI (pPw 1000000 hex T e a) by unfold pPw; rw [e34, e175]; rfl] at hP hD
                        exact rt_i hx hb hrt hlocks (rfl) (()) (by unfold pOk; rw [e34]; show 1 = bI (decide (pS T e a < pX T e a)); rw [decide_eq_true (by omega)]; rfl) (hP.sub [0, 1] rfl) (hK.sub [0] rfl) (hD.sub [0, 1] (by decide) rfl) hS d_Num_findPower_200
                    · have e175 : ngB T e a = true := tt_of (fun z => c175 ((bI_0 _).mpr z))
                      refine lv_aload_n hx hb d_Num_findPower_178 rfl (lv_at hl 0 rfl) ?_
                      refine lv_aload_n hx hb d_Num_findPower_179 rfl (lv_at hl 0 rfl) ?_
                      refine va_get (D := D) (ci := 3) (v := .int (zI ((min (pE T e a) 1000000 : Nat) : Int))) (C := R_Num) (T := F_Num) (N := 8) hx hb hts w_Num hown hK hP 0 rfl rfl 7 (by decide) (hts _ kF_Num_93) (fun _ h9 => h9) rfl d_Num_findPower_180 ?_
                      refine lv_ineg hx hb d_Num_findPower_183 ?_
                      refine tv_i (zI (-((min (pE T e a) 1000000 : Nat) : Int))) (zI_neg _) ?_
                      refine va_put (D := D) (ci := 3) (v := .int (zI (-((min (pE T e a) 1000000 : Nat) : Int)))) (ty := .int) (C := R_Num) (T := F_Num) (N := 8) hx hb hts w_Num t_Num tk_Num n_Num hown hK hP hD hS 0 rfl rfl 7 (by decide) (hts _ kF_Num_93) (fun _ h9 => h9) rfl (by decide +kernel) (rfl) (rfl) (Nat.le_of_ble_eq_true rfl) d_Num_findPower_184 (fun H locs hP hD hS => ?_)
                      have hP : va_P D vcl [(nm, .inr (3, [.ref x, .int (nI (pX T e a)), .int (nI e), .int mi, .int (nI (if hex then 4 else 3)), .int fr, .int to, .int (zI (-((min (pE T e a) 1000000 : Nat) : Int)))])), (x, .inl (cC, 2400, .inl (tx T)))] H := hP
                      have hD : va_D A [(nm, .inr (3, [.ref x, .int (nI (pX T e a)), .int (nI e), .int mi, .int (nI (if hex then 4 else 3)), .int fr, .int to, .int (zI (-((min (pE T e a) 1000000 : Nat) : Int)))])), (x, .inl (cC, 2400, .inl (tx T)))] := hD
                      refine lv_aload_n hx hb d_Num_findPower_187 rfl (lv_at hl 0 rfl) ?_
                      refine va_get (D := D) (ci := 3) (v := .int (nI (pX T e a))) (C := R_Num) (T := F_Num) (N := 8) hx hb hts w_Num hown hK hP 0 rfl rfl 1 (by decide) (hts _ kF_Num_27) (fun _ h9 => h9) rfl d_Num_findPower_188 ?_
                      refine lv_iload_n hx hb d_Num_findPower_191 rfl (lv_at hl 2 rfl) ?_
                      refine lv_icmp_le (tgt := 199) hx hb d_Num_findPower_192 (by decide) (fun c192 => ?_) (fun c192 => ?_)
                      · have e192 : pX T e a ≤ pS T e a := (nI_leI (by omega) (by omega)).mp c192
                        refine lv_iconst (v := 0) hx hb d_Num_findPower_199 (by decide) ?_
                        rw [show nI (pX T e a) = nI (pAt hex T e a) by unfold pAt; rw [e34]; rfl, show zI (-((min (pE T e a) 1000000 : Nat) : Int)) = zI (pPw 1000000 hex T e a) by unfold pPw; rw [e34, e175]; rfl] at hP hD
                        exact rt_i hx hb hrt hlocks (rfl) (()) (by unfold pOk; rw [e34]; show 0 = bI (decide (pS T e a < pX T e a)); rw [decide_eq_false (by omega)]; rfl) (hP.sub [0, 1] rfl) (hK.sub [0] rfl) (hD.sub [0, 1] (by decide) rfl) hS d_Num_findPower_200
                      · have e192 : ¬ pX T e a ≤ pS T e a := fun z => c192 ((nI_leI (by omega) (by omega)).mpr z)
                        refine lv_iconst (v := 1) hx hb d_Num_findPower_195 (by decide) ?_
                        refine lv_goto (tgt := 200) hx hb d_Num_findPower_196 (by decide) ?_
                        rw [show nI (pX T e a) = nI (pAt hex T e a) by unfold pAt; rw [e34]; rfl, show zI (-((min (pE T e a) 1000000 : Nat) : Int)) = zI (pPw 1000000 hex T e a) by unfold pPw; rw [e34, e175]; rfl] at hP hD
                        exact rt_i hx hb hrt hlocks (rfl) (()) (by unfold pOk; rw [e34]; show 1 = bI (decide (pS T e a < pX T e a)); rw [decide_eq_true (by omega)]; rfl) (hP.sub [0, 1] rfl) (hK.sub [0] rfl) (hD.sub [0, 1] (by decide) rfl) hS d_Num_findPower_200
                  · have e129 : dg (T k) < 10 := Nat.lt_of_not_le (fun z => c129 ((nI_leI (a := 10) (by decide) (by have := dg_le (T k); omega)).mpr z))
                    refine lv_aload_n hx hb d_Num_findPower_132 rfl (lv_at hl 0 rfl) ?_
                    refine lv_aload_n hx hb d_Num_findPower_133 rfl (lv_at hl 0 rfl) ?_
                    refine va_get (D := D) (ci := 3) (v := .int (zI ((min (xv T (pS T e a) (k - pS T e a)) 1000000 : Nat) : Int))) (C := R_Num) (T := F_Num) (N := 8) hx hb hts w_Num hown hK hP 0 rfl rfl 7 (by decide) (hts _ kF_Num_93) (fun _ h9 => h9) rfl d_Num_findPower_134 ?_
                    refine lv_bipush (v := 10) hx hb d_Num_findPower_137 (by decide) ?_
                    refine lv_imul hx hb d_Num_findPower_139 ?_
                    refine lv_aload_n hx hb d_Num_findPower_140 rfl (lv_at hl 0 rfl) ?_
                    refine va_get (D := D) (ci := 3) (v := .ref x) (C := R_Num) (T := F_Num) (N := 8) hx hb hts w_Num hown hK hP 0 rfl rfl 0 (by decide) (hts _ kF_Num_9) (fun _ h9 => h9) rfl d_Num_findPower_141 ?_
                    refine lv_aload_n hx hb d_Num_findPower_144 rfl (lv_at hl 0 rfl) ?_
                    refine va_get (D := D) (ci := 3) (v := .int (nI k)) (C := R_Num) (T := F_Num) (N := 8) hx hb hts w_Num hown hK hP 0 rfl rfl 1 (by decide) (hts _ kF_Num_27) (fun _ h9 => h9) rfl d_Num_findPower_145 ?_
                    refine va_cald hx hb hK hP 1 0 rfl rfl (i := nI k) (vp_in_nI (show k < 2400 by omega) (by decide)) d_Num_findPower_148 ?_
                    refine tv_i (nI (T (k))) (by rw [nI_clamp (by omega)]; rfl) ?_
                    refine ca_i [(nm, .inr (3, [.ref x, .int (nI k), .int (nI e), .int mi, .int (nI (if hex then 4 else 3)), .int fr, .int to, .int (zI ((min (xv T (pS T e a) (k - pS T e a)) 1000000 : Nat) : Int))])), (x, .inl (cC, 2400, .inl (tx T)))] (va_runSN (As := [.int (nI (T (k)))]) (rest := [.int ((zI ((min (xv T (pS T e a) (k - pS T e a)) 1000000 : Nat) : Int)) * 10), .ref nm]) ⟨hx, hb, hml, hown, hts⟩ (c_Rea_digitOf l D E (T (k)) (by have := hT k; omega) H.size) (xSN 1 hts kC_Rea_digitOf hE.1.1 kT_Rea_digitOf kN_Rea rfl rfl (by decide +kernel) ⟨Nat.le_of_ble_eq_true rfl, Nat.le_of_ble_eq_true rfl⟩) ⟨ct_blind hev, ct_pre hev hP hK hD hS hA hE [] rfl (by decide) [] rfl⟩ rfl rfl hl.1 rfl (lv_room (Nat.le_of_ble_eq_true rfl)) d_Num_findPower_149 ⟨Nat.le_of_ble_eq_true rfl, Nat.le_of_ble_eq_true rfl⟩) hP hD hS hA [] [0, 1] rfl rfl (by decide) (by decide) (fun rv u H locs hw hP hD hS hK1 => ?_)
                    subst hw
                    have hP : va_P D vcl [(nm, .inr (3, [.ref x, .int (nI k), .int (nI e), .int mi, .int (nI (if hex then 4 else 3)), .int fr, .int to, .int (zI ((min (xv T (pS T e a) (k - pS T e a)) 1000000 : Nat) : Int))])), (x, .inl (cC, 2400, .inl (tx T)))] H := hP
                    have hD : va_D A [(nm, .inr (3, [.ref x, .int (nI k), .int (nI e), .int mi, .int (nI (if hex then 4 else 3)), .int fr, .int to, .int (zI ((min (xv T (pS T e a) (k - pS T e a)) 1000000 : Nat) : Int))])), (x, .inl (cC, 2400, .inl (tx T)))] := hD
                    refine lv_iadd hx hb d_Num_findPower_152 ?_
                    refine tv_i (zI ((min (xv T (pS T e a) (k - pS T e a)) 1000000 * 10 + dg (T k) : Nat) : Int)) (by show zI _ * zI 10 + nI _ = _; rw [zI_mul, ← zI_nI, zI_add]; exact congrArg zI (by omega)) ?_
                    refine lv_ldc hx hb hown (hts _ kK_Num_96) d_Num_findPower_153 ?_
                    refine va_mmin hx hb (by rw [hml]; exact hl.1.symm) hown (hts _ kM_Num_46) (hts _ kT_mmin) (hts _ kN_Math) (hts _ kC_mmin) (Nat.le_of_ble_eq_true rfl) (Nat.le_of_ble_eq_true rfl) (Nat.le_of_ble_eq_true rfl) (Nat.le_of_ble_eq_true rfl) d_Num_findPower_155 ?_
                    refine tv_i (zI ((min (xv T (pS T e a) ((k + 1) - pS T e a)) 1000000 : Nat) : Int)) (pw_min hk1) ?_
                    refine va_put (D := D) (ci := 3) (v := .int (zI ((min (xv T (pS T e a) ((k + 1) - pS T e a)) 1000000 : Nat) : Int))) (ty := .int) (C := R_Num) (T := F_Num) (N := 8) hx hb hts w_Num t_Num tk_Num n_Num hown hK hP hD hS 0 rfl rfl 7 (by decide) (hts _ kF_Num_93) (fun _ h9 => h9) rfl (by decide +kernel) (rfl) (rfl) (Nat.le_of_ble_eq_true rfl) d_Num_findPower_158 (fun H locs hP hD hS => ?_)
                    have hP : va_P D vcl [(nm, .inr (3, [.ref x, .int (nI k), .int (nI e), .int mi, .int (nI (if hex then 4 else 3)), .int fr, .int to, .int (zI ((min (xv T (pS T e a) ((k + 1) - pS T e a)) 1000000 : Nat) : Int))])), (x, .inl (cC, 2400, .inl (tx T)))] H := hP
                    have hD : va_D A [(nm, .inr (3, [.ref x, .int (nI k), .int (nI e), .int mi, .int (nI (if hex then 4 else 3)), .int fr, .int to, .int (zI ((min (xv T (pS T e a) ((k + 1) - pS T e a)) 1000000 : Nat) : Int))])), (x, .inl (cC, 2400, .inl (tx T)))] := hD
                    refine lv_aload_n hx hb d_Num_findPower_161 rfl (lv_at hl 0 rfl) ?_
                    refine lv_dup hx hb d_Num_findPower_162 rfl ?_
                    refine va_get (D := D) (ci := 3) (v := .int (nI k)) (C := R_Num) (T := F_Num) (N := 8) hx hb hts w_Num hown hK hP 0 rfl rfl 1 (by decide) (hts _ kF_Num_27) (fun _ h9 => h9) rfl d_Num_findPower_163 ?_
                    refine lv_iconst (v := 1) hx hb d_Num_findPower_166 (by decide) ?_
                    refine lv_iadd hx hb d_Num_findPower_167 ?_
                    refine tv_i (nI (k + 1)) (nI_1 k) ?_
                    refine va_put (D := D) (ci := 3) (v := .int (nI (k + 1))) (ty := .int) (C := R_Num) (T := F_Num) (N := 8) hx hb hts w_Num t_Num tk_Num n_Num hown hK hP hD hS 0 rfl rfl 1 (by decide) (hts _ kF_Num_27) (fun _ h9 => h9) rfl (by decide +kernel) (rfl) (rfl) (Nat.le_of_ble_eq_true rfl) d_Num_findPower_168 (fun H locs hP hD hS => ?_)
                    have hP : va_P D vcl [(nm, .inr (3, [.ref x, .int (nI (k + 1)), .int (nI e), .int mi, .int (nI (if hex then 4 else 3)), .int fr, .int to, .int (zI ((min (xv T (pS T e a) ((k + 1) - pS T e a)) 1000000 : Nat) : Int))])), (x, .inl (cC, 2400, .inl (tx T)))] H := hP
                    have hD : va_D A [(nm, .inr (3, [.ref x, .int (nI (k + 1)), .int (nI e), .int mi, .int (nI (if hex then 4 else 3)), .int fr, .int to, .int (zI ((min (xv T (pS T e a) ((k + 1) - pS T e a)) 1000000 : Nat) : Int))])), (x, .inl (cC, 2400, .inl (tx T)))] := hD
                    refine lv_goto (tgt := 104) hx hb d_Num_findPower_171 (by decide) ?_
                    exact ih (k + 1) (by omega) (by omega) (by omega) (by rw [← sk_t e112 e129]; exact hv) _ _ _ (hP.sub [0, 1] rfl) (hD.sub [0, 1] (by decide) rfl) hS (lv_sub hl [0, 1, 2] rfl)
            exact L104 (e - pS T e a + 1) (pS T e a) (by omega) (Nat.le_refl _) (hps.1) (rfl) _ _ _ (hP.sub [0, 1] rfl) (hD.sub [0, 1] (by decide) rfl) hS (lv_sub hl [3, 1, 0] rfl)
          · have e86 : lk T e (a + 1) = 43 := (nI_eq (b := 43) (by omega) (by decide)).mp c86
            refine lv_aload_n hx hb d_Num_findPower_89 rfl (lv_at hl 2 rfl) ?_
            refine lv_dup hx hb d_Num_findPower_90 rfl ?_
            refine va_get (D := D) (ci := 3) (v := .int (nI (a + 1))) (C := R_Num) (T := F_Num) (N := 8) hx hb hts w_Num hown hK hP 0 rfl rfl 1 (by decide) (hts _ kF_Num_27) (fun _ h9 => h9) rfl d_Num_findPower_91 ?_
            refine lv_iconst (v := 1) hx hb d_Num_findPower_94 (by decide) ?_
            refine lv_iadd hx hb d_Num_findPower_95 ?_
            refine tv_i (nI (pS T e a)) (by rw [show pS T e a = a + 2 by unfold pS; rw [if_pos (Or.inr e86)]]; exact nI_1 (a + 1)) ?_
            refine va_put (D := D) (ci := 3) (v := .int (nI (pS T e a))) (ty := .int) (C := R_Num) (T := F_Num) (N := 8) hx hb hts w_Num t_Num tk_Num n_Num hown hK hP hD hS 0 rfl rfl 1 (by decide) (hts _ kF_Num_27) (fun _ h9 => h9) rfl (by decide +kernel) (rfl) (rfl) (Nat.le_of_ble_eq_true rfl) d_Num_findPower_96 (fun H locs hP hD hS => ?_)
            have hP : va_P D vcl [(nm, .inr (3, [.ref x, .int (nI (pS T e a)), .int (nI e), .int mi, .int (nI (if hex then 4 else 3)), .int fr, .int to, .int (zI 0)])), (x, .inl (cC, 2400, .inl (tx T)))] H := hP
            have hD : va_D A [(nm, .inr (3, [.ref x, .int (nI (pS T e a)), .int (nI e), .int mi, .int (nI (if hex then 4 else 3)), .int fr, .int to, .int (zI 0)])), (x, .inl (cC, 2400, .inl (tx T)))] := hD
            rw [show zI 0 = zI ((min (xv T (pS T e a) (pS T e a - pS T e a)) 1000000 : Nat) : Int) from by rw [Nat.sub_self]; rfl] at hP hD
            refine lv_aload_n hx hb d_Num_findPower_99 rfl (lv_at hl 2 rfl) ?_
            refine va_get (D := D) (ci := 3) (v := .int (nI (pS T e a))) (C := R_Num) (T := F_Num) (N := 8) hx hb hts w_Num hown hK hP 0 rfl rfl 1 (by decide) (hts _ kF_Num_27) (fun _ h9 => h9) rfl d_Num_findPower_100 ?_
            refine lv_istore_n (lv' := [(3, .int (nI (pS T e a))), (2, .int (bI (ngB T e a))), (1, .int (bI (mkB hex T e a))), (0, .ref nm)]) hx hb d_Num_findPower_103 rfl hl (by decide) rfl (fun ls hl => ?_)
            have L104 : ∀ (kk : Nat) (k : Nat), e - k < kk → (pS T e a ≤ k) → (k ≤ e) → (sk 10 T e k = sk 10 T e (pS T e a)) → ∀ (H : Heap) (locs : List Loc) (ls : Array Slot), va_P D vcl [(nm, .inr (3, [.ref x, .int (nI k), .int (nI e), .int mi, .int (nI (if hex then 4 else 3)), .int fr, .int to, .int (zI ((min (xv T (pS T e a) (k - pS T e a)) 1000000 : Nat) : Int))])), (x, .inl (cC, 2400, .inl (tx T)))] H → va_D A [(nm, .inr (3, [.ref x, .int (nI k), .int (nI e), .int mi, .int (nI (if hex then 4 else 3)), .int fr, .int to, .int (zI ((min (xv T (pS T e a) (k - pS T e a)) 1000000 : Nat) : Int))])), (x, .inl (cC, 2400, .inl (tx T)))] → va_S A s.heap H locs → lv_has ls 4 [(0, .ref nm), (2, .int (bI (ngB T e a))), (3, .int (nI (pS T e a)))] → W p l ee ({ frames := 2, cells := 0, slots := 0, locals := 42 }) s m ([.ref nm] : List Value).toArray below meth cde H locs 0 0 (MQ below (va_Qi (S := Unit) (fun (r : Int32) (_ : Unit) => r = bI (pOk hex T e a)) (fun u tS => ctB D vcl ((fun _ => [(cC, .char)]) u) ((fun _ : Unit => [(nm, .inr (3, [.ref x, .int (nI (pAt hex T e a)), .int (nI e), .int mi, .int (nI (if hex then 4 else 3)), .int fr, .int to, .int (zI (pPw 1000000 hex T e a))])), (x, .inl (cC, 2400, .inl (tx T)))]) u) A tS) A) ([.ref nm] : List Value).toArray s 0 0 A) (F0 m 104 ls []) := by
              intro kk
              induction kk with
              | zero => intro k hmz; exact absurd hmz (Nat.not_lt_zero _)
              | succ kk ih =>
                intro k hmz hk1 hke hv H locs ls hP hD hS hl
                refine lv_aload_n hx hb d_Num_findPower_104 rfl (lv_at hl 0 rfl) ?_
                refine va_get (D := D) (ci := 3) (v := .int (nI k)) (C := R_Num) (T := F_Num) (N := 8) hx hb hts w_Num hown hK hP 0 rfl rfl 1 (by decide) (hts _ kF_Num_27) (fun _ h9 => h9) rfl d_Num_findPower_105 ?_
                refine lv_aload_n hx hb d_Num_findPower_108 rfl (lv_at hl 0 rfl) ?_
                refine va_get (D := D) (ci := 3) (v := .int (nI e)) (C := R_Num) (T := F_Num) (N := 8) hx hb hts w_Num hown hK hP 0 rfl rfl 2 (by decide) (hts _ kF_Num_52) (fun _ h9 => h9) rfl d_Num_findPower_109 ?_
                refine lv_icmp_ge (tgt := 174) hx hb d_Num_findPower_112 (by decide) (fun c112 => ?_) (fun c112 => ?_)
                · have e112 : e ≤ k := (nI_leI (by omega) (by omega)).mp c112
                  have hkx : k = pX T e a := by unfold pX; rw [← hv]; exact (sk_f (fun z => absurd z.1 (by omega))).symm
                  rw [hkx] at hP hD
                  have hP : va_P D vcl [(nm, .inr (3, [.ref x, .int (nI (pX T e a)), .int (nI e), .int mi, .int (nI (if hex then 4 else 3)), .int fr, .int to, .int (zI ((min (pE T e a) 1000000 : Nat) : Int))])), (x, .inl (cC, 2400, .inl (tx T)))] H := hP
                  have hD : va_D A [(nm, .inr (3, [.ref x, .int (nI (pX T e a)), .int (nI e), .int mi, .int (nI (if hex then 4 else 3)), .int fr, .int to, .int (zI ((min (pE T e a) 1000000 : Nat) : Int))])), (x, .inl (cC, 2400, .inl (tx T)))] := hD
                  refine lv_iload_n hx hb d_Num_findPower_174 rfl (lv_at hl 1 rfl) ?_
                  refine lv_if_eq (tgt := 187) hx hb d_Num_findPower_175 (by decide) (fun c175 => ?_) (fun c175 => ?_)
                  · have e175 : ngB T e a = false := (bI_0 _).mp c175
                    refine lv_aload_n hx hb d_Num_findPower_187 rfl (lv_at hl 0 rfl) ?_
                    refine va_get (D := D) (ci := 3) (v := .int (nI (pX T e a))) (C := R_Num) (T := F_Num) (N := 8) hx hb hts w_Num hown hK hP 0 rfl rfl 1 (by decide) (hts _ kF_Num_27) (fun _ h9 => h9) rfl d_Num_findPower_188 ?_
                    refine lv_iload_n hx hb d_Num_findPower_191 rfl (lv_at hl 2 rfl) ?_
                    refine lv_icmp_le (tgt := 199) hx hb d_Num_findPower_192 (by decide) (fun c192 => ?_) (fun c192 => ?_)
                    · have e192 : pX T e a ≤ pS T e a := (nI_leI (by omega) (by omega)).mp c192
                      refine lv_iconst (v := 0) hx hb d_Num_findPower_199 (by decide) ?_
                      rw [show nI (pX T e a) = nI (pAt hex T e a) by unfold pAt; rw [e34]; rfl, show zI ((min (pE T e a) 1000000 : Nat) : Int) = zI (pPw 1000000 hex T e a) by unfold pPw; rw [e34, e175]; rfl] at hP hD
                      exact rt_i hx hb hrt hlocks (rfl) (()) (by unfold pOk; rw [e34]; show 0 = bI (decide (pS T e a < pX T e a)); rw [decide_eq_false (by omega)]; rfl) (hP.sub [0, 1] rfl) (hK.sub [0] rfl) (hD.sub [0, 1] (by decide) rfl) hS d_Num_findPower_200
                    · have e192 : ¬ pX T e a ≤ pS T e a := fun z => c192 ((nI_leI (by omega) (by omega)).mpr z)
                      refine lv_iconst (v := 1) hx hb d_Num_findPower_195 (by decide) ?_
                      refine lv_goto (tgt := 200) hx hb d_Num_findPower_196 (by decide) ?_
                      rw [show nI (pX T e a) = nI (pAt hex T e a) by unfold pAt; rw [e34]; rfl, show zI ((min (pE T e a) 1000000 : Nat) : Int) = zI (pPw 1000000 hex T e a) by unfold pPw; rw [e34, e175]; rfl] at hP hD
                      exact rt_i hx hb hrt hlocks (rfl) (()) (by unfold pOk; rw [e34]; show 1 = bI (decide (pS T e a < pX T e a)); rw [decide_eq_true (by omega)]; rfl) (hP.sub [0, 1] rfl) (hK.sub [0] rfl) (hD.sub [0, 1] (by decide) rfl) hS d_Num_findPower_200
                  · have e175 : ngB T e a = true := tt_of (fun z => c175 ((bI_0 _).mpr z))
                    refine lv_aload_n hx hb d_Num_findPower_178 rfl (lv_at hl 0 rfl) ?_
                    refine lv_aload_n hx hb d_Num_findPower_179 rfl (lv_at hl 0 rfl) ?_
                    refine va_get (D := D) (ci := 3) (v := .int (zI ((min (pE T e a) 1000000 : Nat) : Int))) (C := R_Num) (T := F_Num) (N := 8) hx hb hts w_Num hown hK hP 0 rfl rfl 7 (by decide) (hts _ kF_Num_93) (fun _ h9 => h9) rfl d_Num_findPower_180 ?_
                    refine lv_ineg hx hb d_Num_findPower_183 ?_
                    refine tv_i (zI (-((min (pE T e a) 1000000 : Nat) : Int))) (zI_neg _) ?_
                    refine va_put (D := D) (ci := 3) (v := .int (zI (-((min (pE T e a) 1000000 : Nat) : Int)))) (ty := .int) (C := R_Num) (T := F_Num) (N := 8) hx hb hts w_Num t_Num tk_Num n_Num hown hK hP hD hS 0 rfl rfl 7 (by decide) (hts _ kF_Num_93) (fun _ h9 => h9) rfl (by decide +kernel) (rfl) (rfl) (Nat.le_of_ble_eq_true rfl) d_Num_findPower_184 (fun H locs hP hD hS => ?_)
                    have hP : va_P D vcl [(nm, .inr (3, [.ref x, .int (nI (pX T e a)), .int (nI e), .int mi, .int (nI (if hex then 4 else 3)), .int fr, .int to, .int (zI (-((min (pE T e a) 1000000 : Nat) : Int)))])), (x, .inl (cC, 2400, .inl (tx T)))] H := hP
                    have hD : va_D A [(nm, .inr (3, [.ref x, .int (nI (pX T e a)), .int (nI e), .int mi, .int (nI (if hex then 4 else 3)), .int fr, .int to, .int (zI (-((min (pE T e a) 1000000 : Nat) : Int)))])), (x, .inl (cC, 2400, .inl (tx T)))] := hD
                    refine lv_aload_n hx hb d_Num_findPower_187 rfl (lv_at hl 0 rfl) ?_
                    refine va_get (D := D) (ci := 3) (v := .int (nI (pX T e a))) (C := R_Num) (T := F_Num) (N := 8) hx hb hts w_Num hown hK hP 0 rfl rfl 1 (by decide) (hts _ kF_Num_27) (fun _ h9 => h9) rfl d_Num_findPower_188 ?_
                    refine lv_iload_n hx hb d_Num_findPower_191 rfl (lv_at hl 2 rfl) ?_
                    refine lv_icmp_le (tgt := 199) hx hb d_Num_findPower_192 (by decide) (fun c192 => ?_) (fun c192 => ?_)
                    · have e192 : pX T e a ≤ pS T e a := (nI_leI (by omega) (by omega)).mp c192
                      refine lv_iconst (v := 0) hx hb d_Num_findPower_199 (by decide) ?_
                      rw [show nI (pX T e a) = nI (pAt hex T e a) by unfold pAt; rw [e34]; rfl, show zI (-((min (pE T e a) 1000000 : Nat) : Int)) = zI (pPw 1000000 hex T e a) by unfold pPw; rw [e34, e175]; rfl] at hP hD
                      exact rt_i hx hb hrt hlocks (rfl) (()) (by unfold pOk; rw [e34]; show 0 = bI (decide (pS T e a < pX T e a)); rw [decide_eq_false (by omega)]; rfl) (hP.sub [0, 1] rfl) (hK.sub [0] rfl) (hD.sub [0, 1] (by decide) rfl) hS d_Num_findPower_200
                    · have e192 : ¬ pX T e a ≤ pS T e a := fun z => c192 ((nI_leI (by omega) (by omega)).mpr z)
                      refine lv_iconst (v := 1) hx hb d_Num_findPower_195 (by decide) ?_
                      refine lv_goto (tgt := 200) hx hb d_Num_findPower_196 (by decide) ?_
                      rw [show nI (pX T e a) = nI (pAt hex T e a) by unfold pAt; rw [e34]; rfl, show zI (-((min (pE T e a) 1000000 : Nat) : Int)) = zI (pPw 1000000 hex T e a) by unfold pPw; rw [e34, e175]; rfl] at hP hD
                      exact rt_i hx hb hrt hlocks (rfl) (()) (by unfold pOk; rw [e34]; show 1 = bI (decide (pS T e a < pX T e a)); rw [decide_eq_true (by omega)]; rfl) (hP.sub [0, 1] rfl) (hK.sub [0] rfl) (hD.sub [0, 1] (by decide) rfl) hS d_Num_findPower_200
                · have e112 : k < e := Nat.lt_of_not_le (fun z => c112 ((nI_leI (by omega) (by omega)).mpr z))
                  refine lv_aload_n hx hb d_Num_findPower_115 rfl (lv_at hl 0 rfl) ?_
                  refine va_get (D := D) (ci := 3) (v := .ref x) (C := R_Num) (T := F_Num) (N := 8) hx hb hts w_Num hown hK hP 0 rfl rfl 0 (by decide) (hts _ kF_Num_9) (fun _ h9 => h9) rfl d_Num_findPower_116 ?_
                  refine lv_aload_n hx hb d_Num_findPower_119 rfl (lv_at hl 0 rfl) ?_
                  refine va_get (D := D) (ci := 3) (v := .int (nI k)) (C := R_Num) (T := F_Num) (N := 8) hx hb hts w_Num hown hK hP 0 rfl rfl 1 (by decide) (hts _ kF_Num_27) (fun _ h9 => h9) rfl d_Num_findPower_120 ?_
                  refine va_cald hx hb hK hP 1 0 rfl rfl (i := nI k) (vp_in_nI (show k < 2400 by omega) (by decide)) d_Num_findPower_123 ?_
                  refine tv_i (nI (T (k))) (by rw [nI_clamp (by omega)]; rfl) ?_
                  refine ca_i [(nm, .inr (3, [.ref x, .int (nI k), .int (nI e), .int mi, .int (nI (if hex then 4 else 3)), .int fr, .int to, .int (zI ((min (xv T (pS T e a) (k - pS T e a)) 1000000 : Nat) : Int))])), (x, .inl (cC, 2400, .inl (tx T)))] (va_runSN (As := [.int (nI (T (k)))]) (rest := []) ⟨hx, hb, hml, hown, hts⟩ (c_Rea_digitOf l D E (T (k)) (by have := hT k; omega) H.size) (xSN 1 hts kC_Rea_digitOf hE.1.1 kT_Rea_digitOf kN_Rea rfl rfl (by decide +kernel) ⟨Nat.le_of_ble_eq_true rfl, Nat.le_of_ble_eq_true rfl⟩) ⟨ct_blind hev, ct_pre hev hP hK hD hS hA hE [] rfl (by decide) [] rfl⟩ rfl rfl hl.1 rfl (lv_room (Nat.le_of_ble_eq_true rfl)) d_Num_findPower_124 ⟨Nat.le_of_ble_eq_true rfl, Nat.le_of_ble_eq_true rfl⟩) hP hD hS hA [] [0, 1] rfl rfl (by decide) (by decide) (fun rv u H locs hw hP hD hS hK1 => ?_)
                  subst hw
                  have hP : va_P D vcl [(nm, .inr (3, [.ref x, .int (nI k), .int (nI e), .int mi, .int (nI (if hex then 4 else 3)), .int fr, .int to, .int (zI ((min (xv T (pS T e a) (k - pS T e a)) 1000000 : Nat) : Int))])), (x, .inl (cC, 2400, .inl (tx T)))] H := hP
                  have hD : va_D A [(nm, .inr (3, [.ref x, .int (nI k), .int (nI e), .int mi, .int (nI (if hex then 4 else 3)), .int fr, .int to, .int (zI ((min (xv T (pS T e a) (k - pS T e a)) 1000000 : Nat) : Int))])), (x, .inl (cC, 2400, .inl (tx T)))] := hD
                  refine lv_bipush (v := 10) hx hb d_Num_findPower_127 (by decide) ?_
                  refine lv_icmp_ge (tgt := 174) hx hb d_Num_findPower_129 (by decide) (fun c129 => ?_) (fun c129 => ?_)
                  · have e129 : 10 ≤ dg (T k) := (nI_leI (a := 10) (by decide) (by have := dg_le (T k); omega)).mp c129
                    have hkx : k = pX T e a := by unfold pX; rw [← hv]; exact (sk_f (fun z => absurd z.2 (by omega))).symm
                    rw [hkx] at hP hD
                    have hP : va_P D vcl [(nm, .inr (3, [.ref x, .int (nI (pX T e a)), .int (nI e), .int mi, .int (nI (if hex then 4 else 3)), .int fr, .int to, .int (zI ((min (pE T e a) 1000000 : Nat) : Int))])), (x, .inl (cC, 2400, .inl (tx T)))] H := hP
                    have hD : va_D A [(nm, .inr (3, [.ref x, .int (nI (pX T e a)), .int (nI e), .int mi, .int (nI (if hex then 4 else 3)), .int fr, .int to, .int (zI ((min (pE T e a) 1000000 : Nat) : Int))])), (x, .inl (cC, 2400, .inl (tx T)))] := hD
                    refine lv_iload_n hx hb d_Num_findPower_174 rfl (lv_at hl 1 rfl) ?_
                    refine lv_if_eq (tgt := 187) hx hb d_Num_findPower_175 (by decide) (fun c175 => ?_) (fun c175 => ?_)
                    · have e175 : ngB T e a = false := (bI_0 _).mp c175
                      refine lv_aload_n hx hb d_Num_findPower_187 rfl (lv_at hl 0 rfl) ?_
                      refine va_get (D := D) (ci := 3) (v := .int (nI (pX T e a))) (C := R_Num) (T := F_Num) (N := 8) hx hb hts w_Num hown hK hP 0 rfl rfl 1 (by decide) (hts _ kF_Num_27) (fun _ h9 => h9) rfl d_Num_findPower_188 ?_
                      refine lv_iload_n hx hb d_Num_findPower_191 rfl (lv_at hl 2 rfl) ?_
                      refine lv_icmp_le (tgt := 199) hx hb d_Num_findPower_192 (by decide) (fun c192 => ?_) (fun c192 => ?_)
                      · have e192 : pX T e a ≤ pS T e a := (nI_leI (by omega) (by omega)).mp c192
                        refine lv_iconst (v := 0) hx hb d_Num_findPower_199 (by decide) ?_
                        rw [show nI (pX T e a) = nI (pAt hex T e a) by unfold pAt; rw [e34]; rfl, show zI ((min (pE T e a) 1000000 : Nat) : Int) = zI (pPw 1000000 hex T e a) by unfold pPw; rw [e34, e175]; rfl] at hP hD
                        exact rt_i hx hb hrt hlocks (rfl) (()) (by unfold pOk; rw [e34]; show 0 = bI (decide (pS T e a < pX T e a)); rw [decide_eq_false (by omega)]; rfl) (hP.sub [0, 1] rfl) (hK.sub [0] rfl) (hD.sub [0, 1] (by decide) rfl) hS d_Num_findPower_200
                      · have e192 : ¬ pX T e a ≤ pS T e a := fun z => c192 ((nI_leI (by omega) (by omega)).mpr z)
                        refine lv_iconst (v := 1) hx hb d_Num_findPower_195 (by decide) ?_
                        refine lv_goto (tgt := 200) hx hb d_Num_findPower_196 (by decide) ?_
                        rw [show nI (pX T e a) = nI (pAt hex T e a) by unfold pAt; rw [e34]; rfl, show zI ((min (pE T e a) 1000000 : Nat) : Int) = zI (pPw 1000000 hex T e a) by unfold pPw; rw [e34, e175]; rfl] at hP hD
                        exact rt_i hx hb hrt hlocks (rfl) (()) (by unfold pOk; rw [e34]; show 1 = bI (decide (pS T e a < pX T e a)); rw [decide_eq_true (by omega)]; rfl) (hP.sub [0, 1] rfl) (hK.sub [0] rfl) (hD.sub [0, 1] (by decide) rfl) hS d_Num_findPower_200
                    · have e175 : ngB T e a = true := tt_of (fun z => c175 ((bI_0 _).mpr z))
                      refine lv_aload_n hx hb d_Num_findPower_178 rfl (lv_at hl 0 rfl) ?_
                      refine lv_aload_n hx hb d_Num_findPower_179 rfl (lv_at hl 0 rfl) ?_
                      refine va_get (D := D) (ci := 3) (v := .int (zI ((min (pE T e a) 1000000 : Nat) : Int))) (C := R_Num) (T := F_Num) (N := 8) hx hb hts w_Num hown hK hP 0 rfl rfl 7 (by decide) (hts _ kF_Num_93) (fun _ h9 => h9) rfl d_Num_findPower_180 ?_
                      refine lv_ineg hx hb d_Num_findPower_183 ?_
                      refine tv_i (zI (-((min (pE T e a) 1000000 : Nat) : Int))) (zI_neg _) ?_
                      refine va_put (D := D) (ci := 3) (v := .int (zI (-((min (pE T e a) 1000000 : Nat) : Int)))) (ty := .int) (C := R_Num) (T := F_Num) (N := 8) hx hb hts w_Num t_Num tk_Num n_Num hown hK hP hD hS 0 rfl rfl 7 (by decide) (hts _ kF_Num_93) (fun _ h9 => h9) rfl (by decide +kernel) (rfl) (rfl) (Nat.le_of_ble_eq_true rfl) d_Num_findPower_184 (fun H locs hP hD hS => ?_)
                      have hP : va_P D vcl [(nm, .inr (3, [.ref x, .int (nI (pX T e a)), .int (nI e), .int mi, .int (nI (if hex then 4 else 3)), .int fr, .int to, .int (zI (-((min (pE T e a) 1000000 : Nat) : Int)))])), (x, .inl (cC, 2400, .inl (tx T)))] H := hP
                      have hD : va_D A [(nm, .inr (3, [.ref x, .int (nI (pX T e a)), .int (nI e), .int mi, .int (nI (if hex then 4 else 3)), .int fr, .int to, .int (zI (-((min (pE T e a) 1000000 : Nat) : Int)))])), (x, .inl (cC, 2400, .inl (tx T)))] := hD
                      refine lv_aload_n hx hb d_Num_findPower_187 rfl (lv_at hl 0 rfl) ?_
                      refine va_get (D := D) (ci := 3) (v := .int (nI (pX T e a))) (C := R_Num) (T := F_Num) (N := 8) hx hb hts w_Num hown hK hP 0 rfl rfl 1 (by decide) (hts _ kF_Num_27) (fun _ h9 => h9) rfl d_Num_findPower_188 ?_
                      refine lv_iload_n hx hb d_Num_findPower_191 rfl (lv_at hl 2 rfl) ?_
                      refine lv_icmp_le (tgt := 199) hx hb d_Num_findPower_192 (by decide) (fun c192 => ?_) (fun c192 => ?_)
                      · have e192 : pX T e a ≤ pS T e a := (nI_leI (by omega) (by omega)).mp c192
                        refine lv_iconst (v := 0) hx hb d_Num_findPower_199 (by decide) ?_
                        rw [show nI (pX T e a) = nI (pAt hex T e a) by unfold pAt; rw [e34]; rfl, show zI (-((min (pE T e a) 1000000 : Nat) : Int)) = zI (pPw 1000000 hex T e a) by unfold pPw; rw [e34, e175]; rfl] at hP hD
                        exact rt_i hx hb hrt hlocks (rfl) (()) (by unfold pOk; rw [e34]; show 0 = bI (decide (pS T e a < pX T e a)); rw [decide_eq_false (by omega)]; rfl) (hP.sub [0, 1] rfl) (hK.sub [0] rfl) (hD.sub [0, 1] (by decide) rfl) hS d_Num_findPower_200
                      · have e192 : ¬ pX T e a ≤ pS T e a := fun z => c192 ((nI_leI (by omega) (by omega)).mpr z)
                        refine lv_iconst (v := 1) hx hb d_Num_findPower_195 (by decide) ?_
                        refine lv_goto (tgt := 200) hx hb d_Num_findPower_196 (by decide) ?_
                        rw [show nI (pX T e a) = nI (pAt hex T e a) by unfold pAt; rw [e34]; rfl, show zI (-((min (pE T e a) 1000000 : Nat) : Int)) = zI (pPw 1000000 hex T e a) by unfold pPw; rw [e34, e175]; rfl] at hP hD
                        exact rt_i hx hb hrt hlocks (rfl) (()) (by unfold pOk; rw [e34]; show 1 = bI (decide (pS T e a < pX T e a)); rw [decide_eq_true (by omega)]; rfl) (hP.sub [0, 1] rfl) (hK.sub [0] rfl) (hD.sub [0, 1] (by decide) rfl) hS d_Num_findPower_200
                  · have e129 : dg (T k) < 10 := Nat.lt_of_not_le (fun z => c129 ((nI_leI (a := 10) (by decide) (by have := dg_le (T k); omega)).mpr z))
                    refine lv_aload_n hx hb d_Num_findPower_132 rfl (lv_at hl 0 rfl) ?_
                    refine lv_aload_n hx hb d_Num_findPower_133 rfl (lv_at hl 0 rfl) ?_
                    refine va_get (D := D) (ci := 3) (v := .int (zI ((min (xv T (pS T e a) (k - pS T e a)) 1000000 : Nat) : Int))) (C := R_Num) (T := F_Num) (N := 8) hx hb hts w_Num hown hK hP 0 rfl rfl 7 (by decide) (hts _ kF_Num_93) (fun _ h9 => h9) rfl d_Num_findPower_134 ?_
                    refine lv_bipush (v := 10) hx hb d_Num_findPower_137 (by decide) ?_
                    refine lv_imul hx hb d_Num_findPower_139 ?_
                    refine lv_aload_n hx hb d_Num_findPower_140 rfl (lv_at hl 0 rfl) ?_
                    refine va_get (D := D) (ci := 3) (v := .ref x) (C := R_Num) (T := F_Num) (N := 8) hx hb hts w_Num hown hK hP 0 rfl rfl 0 (by decide) (hts _ kF_Num_9) (fun _ h9 => h9) rfl d_Num_findPower_141 ?_
                    refine lv_aload_n hx hb d_Num_findPower_144 rfl (lv_at hl 0 rfl) ?_
                    refine va_get (D := D) (ci := 3) (v := .int (nI k)) (C := R_Num) (T := F_Num) (N := 8) hx hb hts w_Num hown hK hP 0 rfl rfl 1 (by decide) (hts _ kF_Num_27) (fun _ h9 => h9) rfl d_Num_findPower_145 ?_
                    refine va_cald hx hb hK hP 1 0 rfl rfl (i := nI k) (vp_in_nI (show k < 2400 by omega) (by decide)) d_Num_findPower_148 ?_
                    refine tv_i (nI (T (k))) (by rw [nI_clamp (by omega)]; rfl) ?_
                    refine ca_i [(nm, .inr (3, [.ref x, .int (nI k), .int (nI e), .int mi, .int (nI (if hex then 4 else 3)), .int fr, .int to, .int (zI ((min (xv T (pS T e a) (k - pS T e a)) 1000000 : Nat) : Int))])), (x, .inl (cC, 2400, .inl (tx T)))] (va_runSN (As := [.int (nI (T (k)))]) (rest := [.int ((zI ((min (xv T (pS T e a) (k - pS T e a)) 1000000 : Nat) : Int)) * 10), .ref nm]) ⟨hx, hb, hml, hown, hts⟩ (c_Rea_digitOf l D E (T (k)) (by have := hT k; omega) H.size) (xSN 1 hts kC_Rea_digitOf hE.1.1 kT_Rea_digitOf kN_Rea rfl rfl (by decide +kernel) ⟨Nat.le_of_ble_eq_true rfl, Nat.le_of_ble_eq_true rfl⟩) ⟨ct_blind hev, ct_pre hev hP hK hD hS hA hE [] rfl (by decide) [] rfl⟩ rfl rfl hl.1 rfl (lv_room (Nat.le_of_ble_eq_true rfl)) d_Num_findPower_149 ⟨Nat.le_of_ble_eq_true rfl, Nat.le_of_ble_eq_true rfl⟩) hP hD hS hA [] [0, 1] rfl rfl (by decide) (by decide) (fun rv u H locs hw hP hD hS hK1 => ?_)
                    subst hw
                    have hP : va_P D vcl [(nm, .inr (3, [.ref x, .int (nI k), .int (nI e), .int mi, .int (nI (if hex then 4 else 3)), .int fr, .int to, .int (zI ((min (xv T (pS T e a) (k - pS T e a)) 1000000 : Nat) : Int))])), (x, .inl (cC, 2400, .inl (tx T)))] H := hP
                    have hD : va_D A [(nm, .inr (3, [.ref x, .int (nI k), .int (nI e), .int mi, .int (nI (if hex then 4 else 3)), .int fr, .int to, .int (zI ((min (xv T (pS T e a) (k - pS T e a)) 1000000 : Nat) : Int))])), (x, .inl (cC, 2400, .inl (tx T)))] := hD
                    refine lv_iadd hx hb d_Num_findPower_152 ?_
                    refine tv_i (zI ((min (xv T (pS T e a) (k - pS T e a)) 1000000 * 10 + dg (T k) : Nat) : Int)) (by show zI _ * zI 10 + nI _ = _; rw [zI_mul, ← zI_nI, zI_add]; exact congrArg zI (by omega)) ?_
                    refine lv_ldc hx hb hown (hts _ kK_Num_96) d_Num_findPower_153 ?_
                    refine va_mmin hx hb (by rw [hml]; exact hl.1.symm) hown (hts _ kM_Num_46) (hts _ kT_mmin) (hts _ kN_Math) (hts _ kC_mmin) (Nat.le_of_ble_eq_true rfl) (Nat.le_of_ble_eq_true rfl) (Nat.le_of_ble_eq_true rfl) (Nat.le_of_ble_eq_true rfl) d_Num_findPower_155 ?_
                    refine tv_i (zI ((min (xv T (pS T e a) ((k + 1) - pS T e a)) 1000000 : Nat) : Int)) (pw_min hk1) ?_
                    refine va_put (D := D) (ci := 3) (v := .int (zI ((min (xv T (pS T e a) ((k + 1) - pS T e a)) 1000000 : Nat) : Int))) (ty := .int) (C := R_Num) (T := F_Num) (N := 8) hx hb hts w_Num t_Num tk_Num n_Num hown hK hP hD hS 0 rfl rfl 7 (by decide) (hts _ kF_Num_93) (fun _ h9 => h9) rfl (by decide +kernel) (rfl) (rfl) (Nat.le_of_ble_eq_true rfl) d_Num_findPower_158 (fun H locs hP hD hS => ?_)
                    have hP : va_P D vcl [(nm, .inr (3, [.ref x, .int (nI k), .int (nI e), .int mi, .int (nI (if hex then 4 else 3)), .int fr, .int to, .int (zI ((min (xv T (pS T e a) ((k + 1) - pS T e a)) 1000000 : Nat) : Int))])), (x, .inl (cC, 2400, .inl (tx T)))] H := hP
                    have hD : va_D A [(nm, .inr (3, [.ref x, .int (nI k), .int (nI e), .int mi, .int (nI (if hex then 4 else 3)), .int fr, .int to, .int (zI ((min (xv T (pS T e a) ((k + 1) - pS T e a)) 1000000 : Nat) : Int))])), (x, .inl (cC, 2400, .inl (tx T)))] := hD
                    refine lv_aload_n hx hb d_Num_findPower_161 rfl (lv_at hl 0 rfl) ?_
                    refine lv_dup hx hb d_Num_findPower_162 rfl ?_
                    refine va_get (D := D) (ci := 3) (v := .int (nI k)) (C := R_Num) (T := F_Num) (N := 8) hx hb hts w_Num hown hK hP 0 rfl rfl 1 (by decide) (hts _ kF_Num_27) (fun _ h9 => h9) rfl d_Num_findPower_163 ?_
                    refine lv_iconst (v := 1) hx hb d_Num_findPower_166 (by decide) ?_
                    refine lv_iadd hx hb d_Num_findPower_167 ?_
                    refine tv_i (nI (k + 1)) (nI_1 k) ?_
                    refine va_put (D := D) (ci := 3) (v := .int (nI (k + 1))) (ty := .int) (C := R_Num) (T := F_Num) (N := 8) hx hb hts w_Num t_Num tk_Num n_Num hown hK hP hD hS 0 rfl rfl 1 (by decide) (hts _ kF_Num_27) (fun _ h9 => h9) rfl (by decide +kernel) (rfl) (rfl) (Nat.le_of_ble_eq_true rfl) d_Num_findPower_168 (fun H locs hP hD hS => ?_)
                    have hP : va_P D vcl [(nm, .inr (3, [.ref x, .int (nI (k + 1)), .int (nI e), .int mi, .int (nI (if hex then 4 else 3)), .int fr, .int to, .int (zI ((min (xv T (pS T e a) ((k + 1) - pS T e a)) 1000000 : Nat) : Int))])), (x, .inl (cC, 2400, .inl (tx T)))] H := hP
                    have hD : va_D A [(nm, .inr (3, [.ref x, .int (nI (k + 1)), .int (nI e), .int mi, .int (nI (if hex then 4 else 3)), .int fr, .int to, .int (zI ((min (xv T (pS T e a) ((k + 1) - pS T e a)) 1000000 : Nat) : Int))])), (x, .inl (cC, 2400, .inl (tx T)))] := hD
                    refine lv_goto (tgt := 104) hx hb d_Num_findPower_171 (by decide) ?_
                    exact ih (k + 1) (by omega) (by omega) (by omega) (by rw [← sk_t e112 e129]; exact hv) _ _ _ (hP.sub [0, 1] rfl) (hD.sub [0, 1] (by decide) rfl) hS (lv_sub hl [0, 1, 2] rfl)
            exact L104 (e - pS T e a + 1) (pS T e a) (by omega) (Nat.le_refl _) (hps.1) (rfl) _ _ _ (hP.sub [0, 1] rfl) (hD.sub [0, 1] (by decide) rfl) hS (lv_sub hl [3, 1, 0] rfl)
      · have e67 : lk T e (a + 1) = 45 := (nI_eq (b := 45) (by omega) (by decide)).mp c67
        refine lv_iconst (v := 1) hx hb d_Num_findPower_70 (by decide) ?_
        refine tv_i (bI (ngB T e a)) (by rw [show ngB T e a = true from decide_eq_true e67]; rfl) ?_
        refine lv_goto (tgt := 75) hx hb d_Num_findPower_71 (by decide) ?_
        refine lv_istore_n (lv' := [(2, .int (bI (ngB T e a))), (1, .int (bI (mkB hex T e a))), (0, .ref nm)]) hx hb d_Num_findPower_75 rfl hl (by decide) rfl (fun ls hl => ?_)
        refine lv_iload_n hx hb d_Num_findPower_76 rfl (lv_at hl 0 rfl) ?_
        refine lv_if_ne (tgt := 89) hx hb d_Num_findPower_77 (by decide) (fun c77 => ?_) (fun c77 => ?_)
        · refine lv_aload_n hx hb d_Num_findPower_89 rfl (lv_at hl 2 rfl) ?_
          refine lv_dup hx hb d_Num_findPower_90 rfl ?_
          refine va_get (D := D) (ci := 3) (v := .int (nI (a + 1))) (C := R_Num) (T := F_Num) (N := 8) hx hb hts w_Num hown hK hP 0 rfl rfl 1 (by decide) (hts _ kF_Num_27) (fun _ h9 => h9) rfl d_Num_findPower_91 ?_
          refine lv_iconst (v := 1) hx hb d_Num_findPower_94 (by decide) ?_
          refine lv_iadd hx hb d_Num_findPower_95 ?_
          refine tv_i (nI (pS T e a)) (by rw [show pS T e a = a + 2 by unfold pS; rw [if_pos (Or.inl e67)]]; exact nI_1 (a + 1)) ?_
          refine va_put (D := D) (ci := 3) (v := .int (nI (pS T e a))) (ty := .int) (C := R_Num) (T := F_Num) (N := 8) hx hb hts w_Num t_Num tk_Num n_Num hown hK hP hD hS 0 rfl rfl 1 (by decide) (hts _ kF_Num_27) (fun _ h9 => h9) rfl (by decide +kernel) (rfl) (rfl) (Nat.le_of_ble_eq_true rfl) d_Num_findPower_96 (fun H locs hP hD hS => ?_)
          have hP : va_P D vcl [(nm, .inr (3, [.ref x, .int (nI (pS T e a)), .int (nI e), .int mi, .int (nI (if hex then 4 else 3)), .int fr, .int to, .int (zI 0)])), (x, .inl (cC, 2400, .inl (tx T)))] H := hP
          have hD : va_D A [(nm, .inr (3, [.ref x, .int (nI (pS T e a)), .int (nI e), .int mi, .int (nI (if hex then 4 else 3)), .int fr, .int to, .int (zI 0)])), (x, .inl (cC, 2400, .inl (tx T)))] := hD
          rw [show zI 0 = zI ((min (xv T (pS T e a) (pS T e a - pS T e a)) 1000000 : Nat) : Int) from by rw [Nat.sub_self]; rfl] at hP hD
          refine lv_aload_n hx hb d_Num_findPower_99 rfl (lv_at hl 2 rfl) ?_
          refine va_get (D := D) (ci := 3) (v := .int (nI (pS T e a))) (C := R_Num) (T := F_Num) (N := 8) hx hb hts w_Num hown hK hP 0 rfl rfl 1 (by decide) (hts _ kF_Num_27) (fun _ h9 => h9) rfl d_Num_findPower_100 ?_
          refine lv_istore_n (lv' := [(3, .int (nI (pS T e a))), (2, .int (bI (ngB T e a))), (1, .int (bI (mkB hex T e a))), (0, .ref nm)]) hx hb d_Num_findPower_103 rfl hl (by decide) rfl (fun ls hl => ?_)
          have L104 : ∀ (kk : Nat) (k : Nat), e - k < kk → (pS T e a ≤ k) → (k ≤ e) → (sk 10 T e k = sk 10 T e (pS T e a)) → ∀ (H : Heap) (locs : List Loc) (ls : Array Slot), va_P D vcl [(nm, .inr (3, [.ref x, .int (nI k), .int (nI e), .int mi, .int (nI (if hex then 4 else 3)), .int fr, .int to, .int (zI ((min (xv T (pS T e a) (k - pS T e a)) 1000000 : Nat) : Int))])), (x, .inl (cC, 2400, .inl (tx T)))] H → va_D A [(nm, .inr (3, [.ref x, .int (nI k), .int (nI e), .int mi, .int (nI (if hex then 4 else 3)), .int fr, .int to, .int (zI ((min (xv T (pS T e a) (k - pS T e a)) 1000000 : Nat) : Int))])), (x, .inl (cC, 2400, .inl (tx T)))] → va_S A s.heap H locs → lv_has ls 4 [(0, .ref nm), (2, .int (bI (ngB T e a))), (3, .int (nI (pS T e a)))] → W p l ee ({ frames := 2, cells := 0, slots := 0, locals := 42 }) s m ([.ref nm] : List Value).toArray below meth cde H locs 0 0 (MQ below (va_Qi (S := Unit) (fun (r : Int32) (_ : Unit) => r = bI (pOk hex T e a)) (fun u tS => ctB D vcl ((fun _ => [(cC, .char)]) u) ((fun _ : Unit => [(nm, .inr (3, [.ref x, .int (nI (pAt hex T e a)), .int (nI e), .int mi, .int (nI (if hex then 4 else 3)), .int fr, .int to, .int (zI (pPw 1000000 hex T e a))])), (x, .inl (cC, 2400, .inl (tx T)))]) u) A tS) A) ([.ref nm] : List Value).toArray s 0 0 A) (F0 m 104 ls []) := by
            intro kk
            induction kk with
            | zero => intro k hmz; exact absurd hmz (Nat.not_lt_zero _)
            | succ kk ih =>
              intro k hmz hk1 hke hv H locs ls hP hD hS hl
              refine lv_aload_n hx hb d_Num_findPower_104 rfl (lv_at hl 0 rfl) ?_
              refine va_get (D := D) (ci := 3) (v := .int (nI k)) (C := R_Num) (T := F_Num) (N := 8) hx hb hts w_Num hown hK hP 0 rfl rfl 1 (by decide) (hts _ kF_Num_27) (fun _ h9 => h9) rfl d_Num_findPower_105 ?_
              refine lv_aload_n hx hb d_Num_findPower_108 rfl (lv_at hl 0 rfl) ?_
              refine va_get (D := D) (ci := 3) (v := .int (nI e)) (C := R_Num) (T := F_Num) (N := 8) hx hb hts w_Num hown hK hP 0 rfl rfl 2 (by decide) (hts _ kF_Num_52) (fun _ h9 => h9) rfl d_Num_findPower_109 ?_
              refine lv_icmp_ge (tgt := 174) hx hb d_Num_findPower_112 (by decide) (fun c112 => ?_) (fun c112 => ?_)
              · have e112 : e ≤ k := (nI_leI (by omega) (by omega)).mp c112
                have hkx : k = pX T e a := by unfold pX; rw [← hv]; exact (sk_f (fun z => absurd z.1 (by omega))).symm
                rw [hkx] at hP hD
                have hP : va_P D vcl [(nm, .inr (3, [.ref x, .int (nI (pX T e a)), .int (nI e), .int mi, .int (nI (if hex then 4 else 3)), .int fr, .int to, .int (zI ((min (pE T e a) 1000000 : Nat) : Int))])), (x, .inl (cC, 2400, .inl (tx T)))] H := hP
                have hD : va_D A [(nm, .inr (3, [.ref x, .int (nI (pX T e a)), .int (nI e), .int mi, .int (nI (if hex then 4 else 3)), .int fr, .int to, .int (zI ((min (pE T e a) 1000000 : Nat) : Int))])), (x, .inl (cC, 2400, .inl (tx T)))] := hD
                refine lv_iload_n hx hb d_Num_findPower_174 rfl (lv_at hl 1 rfl) ?_
                refine lv_if_eq (tgt := 187) hx hb d_Num_findPower_175 (by decide) (fun c175 => ?_) (fun c175 => ?_)
                · have e175 : ngB T e a = false := (bI_0 _).mp c175
                  refine lv_aload_n hx hb d_Num_findPower_187 rfl (lv_at hl 0 rfl) ?_
                  refine va_get (D := D) (ci := 3) (v := .int (nI (pX T e a))) (C := R_Num) (T := F_Num) (N := 8) hx hb hts w_Num hown hK hP 0 rfl rfl 1 (by decide) (hts _ kF_Num_27) (fun _ h9 => h9) rfl d_Num_findPower_188 ?_
                  refine lv_iload_n hx hb d_Num_findPower_191 rfl (lv_at hl 2 rfl) ?_
                  refine lv_icmp_le (tgt := 199) hx hb d_Num_findPower_192 (by decide) (fun c192 => ?_) (fun c192 => ?_)
                  · have e192 : pX T e a ≤ pS T e a := (nI_leI (by omega) (by omega)).mp c192
                    refine lv_iconst (v := 0) hx hb d_Num_findPower_199 (by decide) ?_
                    rw [show nI (pX T e a) = nI (pAt hex T e a) by unfold pAt; rw [e34]; rfl, show zI ((min (pE T e a) 1000000 : Nat) : Int) = zI (pPw 1000000 hex T e a) by unfold pPw; rw [e34, e175]; rfl] at hP hD
                    exact rt_i hx hb hrt hlocks (rfl) (()) (by unfold pOk; rw [e34]; show 0 = bI (decide (pS T e a < pX T e a)); rw [decide_eq_false (by omega)]; rfl) (hP.sub [0, 1] rfl) (hK.sub [0] rfl) (hD.sub [0, 1] (by decide) rfl) hS d_Num_findPower_200
                  · have e192 : ¬ pX T e a ≤ pS T e a := fun z => c192 ((nI_leI (by omega) (by omega)).mpr z)
                    refine lv_iconst (v := 1) hx hb d_Num_findPower_195 (by decide) ?_
                    refine lv_goto (tgt := 200) hx hb d_Num_findPower_196 (by decide) ?_
                    rw [show nI (pX T e a) = nI (pAt hex T e a) by unfold pAt; rw [e34]; rfl, show zI ((min (pE T e a) 1000000 : Nat) : Int) = zI (pPw 1000000 hex T e a) by unfold pPw; rw [e34, e175]; rfl] at hP hD
                    exact rt_i hx hb hrt hlocks (rfl) (()) (by unfold pOk; rw [e34]; show 1 = bI (decide (pS T e a < pX T e a)); rw [decide_eq_true (by omega)]; rfl) (hP.sub [0, 1] rfl) (hK.sub [0] rfl) (hD.sub [0, 1] (by decide) rfl) hS d_Num_findPower_200
                · have e175 : ngB T e a = true := tt_of (fun z => c175 ((bI_0 _).mpr z))
                  refine lv_aload_n hx hb d_Num_findPower_178 rfl (lv_at hl 0 rfl) ?_
                  refine lv_aload_n hx hb d_Num_findPower_179 rfl (lv_at hl 0 rfl) ?_
                  refine va_get (D := D) (ci := 3) (v := .int (zI ((min (pE T e a) 1000000 : Nat) : Int))) (C := R_Num) (T := F_Num) (N := 8) hx hb hts w_Num hown hK hP 0 rfl rfl 7 (by decide) (hts _ kF_Num_93) (fun _ h9 => h9) rfl d_Num_findPower_180 ?_
                  refine lv_ineg hx hb d_Num_findPower_183 ?_
                  refine tv_i (zI (-((min (pE T e a) 1000000 : Nat) : Int))) (zI_neg _) ?_
                  refine va_put (D := D) (ci := 3) (v := .int (zI (-((min (pE T e a) 1000000 : Nat) : Int)))) (ty := .int) (C := R_Num) (T := F_Num) (N := 8) hx hb hts w_Num t_Num tk_Num n_Num hown hK hP hD hS 0 rfl rfl 7 (by decide) (hts _ kF_Num_93) (fun _ h9 => h9) rfl (by decide +kernel) (rfl) (rfl) (Nat.le_of_ble_eq_true rfl) d_Num_findPower_184 (fun H locs hP hD hS => ?_)
                  have hP : va_P D vcl [(nm, .inr (3, [.ref x, .int (nI (pX T e a)), .int (nI e), .int mi, .int (nI (if hex then 4 else 3)), .int fr, .int to, .int (zI (-((min (pE T e a) 1000000 : Nat) : Int)))])), (x, .inl (cC, 2400, .inl (tx T)))] H := hP
                  have hD : va_D A [(nm, .inr (3, [.ref x, .int (nI (pX T e a)), .int (nI e), .int mi, .int (nI (if hex then 4 else 3)), .int fr, .int to, .int (zI (-((min (pE T e a) 1000000 : Nat) : Int)))])), (x, .inl (cC, 2400, .inl (tx T)))] := hD
                  refine lv_aload_n hx hb d_Num_findPower_187 rfl (lv_at hl 0 rfl) ?_
                  refine va_get (D := D) (ci := 3) (v := .int (nI (pX T e a))) (C := R_Num) (T := F_Num) (N := 8) hx hb hts w_Num hown hK hP 0 rfl rfl 1 (by decide) (hts _ kF_Num_27) (fun _ h9 => h9) rfl d_Num_findPower_188 ?_
                  refine lv_iload_n hx hb d_Num_findPower_191 rfl (lv_at hl 2 rfl) ?_
                  refine lv_icmp_le (tgt := 199) hx hb d_Num_findPower_192 (by decide) (fun c192 => ?_) (fun c192 => ?_)
                  · have e192 : pX T e a ≤ pS T e a := (nI_leI (by omega) (by omega)).mp c192
                    refine lv_iconst (v := 0) hx hb d_Num_findPower_199 (by decide) ?_
                    rw [show nI (pX T e a) = nI (pAt hex T e a) by unfold pAt; rw [e34]; rfl, show zI (-((min (pE T e a) 1000000 : Nat) : Int)) = zI (pPw 1000000 hex T e a) by unfold pPw; rw [e34, e175]; rfl] at hP hD
                    exact rt_i hx hb hrt hlocks (rfl) (()) (by unfold pOk; rw [e34]; show 0 = bI (decide (pS T e a < pX T e a)); rw [decide_eq_false (by omega)]; rfl) (hP.sub [0, 1] rfl) (hK.sub [0] rfl) (hD.sub [0, 1] (by decide) rfl) hS d_Num_findPower_200
                  · have e192 : ¬ pX T e a ≤ pS T e a := fun z => c192 ((nI_leI (by omega) (by omega)).mpr z)
                    refine lv_iconst (v := 1) hx hb d_Num_findPower_195 (by decide) ?_
                    refine lv_goto (tgt := 200) hx hb d_Num_findPower_196 (by decide) ?_
                    rw [show nI (pX T e a) = nI (pAt hex T e a) by unfold pAt; rw [e34]; rfl, show zI (-((min (pE T e a) 1000000 : Nat) : Int)) = zI (pPw 1000000 hex T e a) by unfold pPw; rw [e34, e175]; rfl] at hP hD
                    exact rt_i hx hb hrt hlocks (rfl) (()) (by unfold pOk; rw [e34]; show 1 = bI (decide (pS T e a < pX T e a)); rw [decide_eq_true (by omega)]; rfl) (hP.sub [0, 1] rfl) (hK.sub [0] rfl) (hD.sub [0, 1] (by decide) rfl) hS d_Num_findPower_200
              · have e112 : k < e := Nat.lt_of_not_le (fun z => c112 ((nI_leI (by omega) (by omega)).mpr z))
                refine lv_aload_n hx hb d_Num_findPower_115 rfl (lv_at hl 0 rfl) ?_
                refine va_get (D := D) (ci := 3) (v := .ref x) (C := R_Num) (T := F_Num) (N := 8) hx hb hts w_Num hown hK hP 0 rfl rfl 0 (by decide) (hts _ kF_Num_9) (fun _ h9 => h9) rfl d_Num_findPower_116 ?_
                refine lv_aload_n hx hb d_Num_findPower_119 rfl (lv_at hl 0 rfl) ?_
                refine va_get (D := D) (ci := 3) (v := .int (nI k)) (C := R_Num) (T := F_Num) (N := 8) hx hb hts w_Num hown hK hP 0 rfl rfl 1 (by decide) (hts _ kF_Num_27) (fun _ h9 => h9) rfl d_Num_findPower_120 ?_
                refine va_cald hx hb hK hP 1 0 rfl rfl (i := nI k) (vp_in_nI (show k < 2400 by omega) (by decide)) d_Num_findPower_123 ?_
                refine tv_i (nI (T (k))) (by rw [nI_clamp (by omega)]; rfl) ?_
                refine ca_i [(nm, .inr (3, [.ref x, .int (nI k), .int (nI e), .int mi, .int (nI (if hex then 4 else 3)), .int fr, .int to, .int (zI ((min (xv T (pS T e a) (k - pS T e a)) 1000000 : Nat) : Int))])), (x, .inl (cC, 2400, .inl (tx T)))] (va_runSN (As := [.int (nI (T (k)))]) (rest := []) ⟨hx, hb, hml, hown, hts⟩ (c_Rea_digitOf l D E (T (k)) (by have := hT k; omega) H.size) (xSN 1 hts kC_Rea_digitOf hE.1.1 kT_Rea_digitOf kN_Rea rfl rfl (by decide +kernel) ⟨Nat.le_of_ble_eq_true rfl, Nat.le_of_ble_eq_true rfl⟩) ⟨ct_blind hev, ct_pre hev hP hK hD hS hA hE [] rfl (by decide) [] rfl⟩ rfl rfl hl.1 rfl (lv_room (Nat.le_of_ble_eq_true rfl)) d_Num_findPower_124 ⟨Nat.le_of_ble_eq_true rfl, Nat.le_of_ble_eq_true rfl⟩) hP hD hS hA [] [0, 1] rfl rfl (by decide) (by decide) (fun rv u H locs hw hP hD hS hK1 => ?_)
                subst hw
                have hP : va_P D vcl [(nm, .inr (3, [.ref x, .int (nI k), .int (nI e), .int mi, .int (nI (if hex then 4 else 3)), .int fr, .int to, .int (zI ((min (xv T (pS T e a) (k - pS T e a)) 1000000 : Nat) : Int))])), (x, .inl (cC, 2400, .inl (tx T)))] H := hP
                have hD : va_D A [(nm, .inr (3, [.ref x, .int (nI k), .int (nI e), .int mi, .int (nI (if hex then 4 else 3)), .int fr, .int to, .int (zI ((min (xv T (pS T e a) (k - pS T e a)) 1000000 : Nat) : Int))])), (x, .inl (cC, 2400, .inl (tx T)))] := hD
                refine lv_bipush (v := 10) hx hb d_Num_findPower_127 (by decide) ?_
                refine lv_icmp_ge (tgt := 174) hx hb d_Num_findPower_129 (by decide) (fun c129 => ?_) (fun c129 => ?_)
                · have e129 : 10 ≤ dg (T k) := (nI_leI (a := 10) (by decide) (by have := dg_le (T k); omega)).mp c129
                  have hkx : k = pX T e a := by unfold pX; rw [← hv]; exact (sk_f (fun z => absurd z.2 (by omega))).symm
                  rw [hkx] at hP hD
                  have hP : va_P D vcl [(nm, .inr (3, [.ref x, .int (nI (pX T e a)), .int (nI e), .int mi, .int (nI (if hex then 4 else 3)), .int fr, .int to, .int (zI ((min (pE T e a) 1000000 : Nat) : Int))])), (x, .inl (cC, 2400, .inl (tx T)))] H := hP
                  have hD : va_D A [(nm, .inr (3, [.ref x, .int (nI (pX T e a)), .int (nI e), .int mi, .int (nI (if hex then 4 else 3)), .int fr, .int to, .int (zI ((min (pE T e a) 1000000 : Nat) : Int))])), (x, .inl (cC, 2400, .inl (tx T)))] := hD
                  refine lv_iload_n hx hb d_Num_findPower_174 rfl (lv_at hl 1 rfl) ?_
                  refine lv_if_eq (tgt := 187) hx hb d_Num_findPower_175 (by decide) (fun c175 => ?_) (fun c175 => ?_)
                  · have e175 : ngB T e a = false := (bI_0 _).mp c175
                    refine lv_aload_n hx hb d_Num_findPower_187 rfl (lv_at hl 0 rfl) ?_
                    refine va_get (D := D) (ci := 3) (v := .int (nI (pX T e a))) (C := R_Num) (T := F_Num) (N := 8) hx hb hts w_Num hown hK hP 0 rfl rfl 1 (by decide) (hts _ kF_Num_27) (fun _ h9 => h9) rfl d_Num_findPower_188 ?_
                    refine lv_iload_n hx hb d_Num_findPower_191 rfl (lv_at hl 2 rfl) ?_
                    refine lv_icmp_le (tgt := 199) hx hb d_Num_findPower_192 (by decide) (fun c192 => ?_) (fun c192 => ?_)
                    · have e192 : pX T e a ≤ pS T e a := (nI_leI (by omega) (by omega)).mp c192
                      refine lv_iconst (v := 0) hx hb d_Num_findPower_199 (by decide) ?_
                      rw [show nI (pX T e a) = nI (pAt hex T e a) by unfold pAt; rw [e34]; rfl, show zI ((min (pE T e a) 1000000 : Nat) : Int) = zI (pPw 1000000 hex T e a) by unfold pPw; rw [e34, e175]; rfl] at hP hD
                      exact rt_i hx hb hrt hlocks (rfl) (()) (by unfold pOk; rw [e34]; show 0 = bI (decide (pS T e a < pX T e a)); rw [decide_eq_false (by omega)]; rfl) (hP.sub [0, 1] rfl) (hK.sub [0] rfl) (hD.sub [0, 1] (by decide) rfl) hS d_Num_findPower_200
                    · have e192 : ¬ pX T e a ≤ pS T e a := fun z => c192 ((nI_leI (by omega) (by omega)).mpr z)
                      refine lv_iconst (v := 1) hx hb d_Num_findPower_195 (by decide) ?_
                      refine lv_goto (tgt := 200) hx hb d_Num_findPower_196 (by decide) ?_
                      rw [show nI (pX T e a) = nI (pAt hex T e a) by unfold pAt; rw [e34]; rfl, show zI ((min (pE T e a) 1000000 : Nat) : Int) = zI (pPw 1000000 hex T e a) by unfold pPw; rw [e34, e175]; rfl] at hP hD
                      exact rt_i hx hb hrt hlocks (rfl) (()) (by unfold pOk; rw [e34]; show 1 = bI (decide (pS T e a < pX T e a)); rw [decide_eq_true (by omega)]; rfl) (hP.sub [0, 1] rfl) (hK.sub [0] rfl) (hD.sub [0, 1] (by decide) rfl) hS d_Num_findPower_200
                  · have e175 : ngB T e a = true := tt_of (fun z => c175 ((bI_0 _).mpr z))
                    refine lv_aload_n hx hb d_Num_findPower_178 rfl (lv_at hl 0 rfl) ?_
                    refine lv_aload_n hx hb d_Num_findPower_179 rfl (lv_at hl 0 rfl) ?_
                    refine va_get (D := D) (ci := 3) (v := .int (zI ((min (pE T e a) 1000000 : Nat) : Int))) (C := R_Num) (T := F_Num) (N := 8) hx hb hts w_Num hown hK hP 0 rfl rfl 7 (by decide) (hts _ kF_Num_93) (fun _ h9 => h9) rfl d_Num_findPower_180 ?_
                    refine lv_ineg hx hb d_Num_findPower_183 ?_
                    refine tv_i (zI (-((min (pE T e a) 1000000 : Nat) : Int))) (zI_neg _) ?_
                    refine va_put (D := D) (ci := 3) (v := .int (zI (-((min (pE T e a) 1000000 : Nat) : Int)))) (ty := .int) (C := R_Num) (T := F_Num) (N := 8) hx hb hts w_Num t_Num tk_Num n_Num hown hK hP hD hS 0 rfl rfl 7 (by decide) (hts _ kF_Num_93) (fun _ h9 => h9) rfl (by decide +kernel) (rfl) (rfl) (Nat.le_of_ble_eq_true rfl) d_Num_findPower_184 (fun H locs hP hD hS => ?_)
                    have hP : va_P D vcl [(nm, .inr (3, [.ref x, .int (nI (pX T e a)), .int (nI e), .int mi, .int (nI (if hex then 4 else 3)), .int fr, .int to, .int (zI (-((min (pE T e a) 1000000 : Nat) : Int)))])), (x, .inl (cC, 2400, .inl (tx T)))] H := hP
                    have hD : va_D A [(nm, .inr (3, [.ref x, .int (nI (pX T e a)), .int (nI e), .int mi, .int (nI (if hex then 4 else 3)), .int fr, .int to, .int (zI (-((min (pE T e a) 1000000 : Nat) : Int)))])), (x, .inl (cC, 2400, .inl (tx T)))] := hD
                    refine lv_aload_n hx hb d_Num_findPower_187 rfl (lv_at hl 0 rfl) ?_
                    refine va_get (D := D) (ci := 3) (v := .int (nI (pX T e a))) (C := R_Num) (T := F_Num) (N := 8) hx hb hts w_Num hown hK hP 0 rfl rfl 1 (by decide) (hts _ kF_Num_27) (fun _ h9 => h9) rfl d_Num_findPower_188 ?_
                    refine lv_iload_n hx hb d_Num_findPower_191 rfl (lv_at hl 2 rfl) ?_
                    refine lv_icmp_le (tgt := 199) hx hb d_Num_findPower_192 (by decide) (fun c192 => ?_) (fun c192 => ?_)
                    · have e192 : pX T e a ≤ pS T e a := (nI_leI (by omega) (by omega)).mp c192
                      refine lv_iconst (v := 0) hx hb d_Num_findPower_199 (by decide) ?_
                      rw [show nI (pX T e a) = nI (pAt hex T e a) by unfold pAt; rw [e34]; rfl, show zI (-((min (pE T e a) 1000000 : Nat) : Int)) = zI (pPw 1000000 hex T e a) by unfold pPw; rw [e34, e175]; rfl] at hP hD
                      exact rt_i hx hb hrt hlocks (rfl) (()) (by unfold pOk; rw [e34]; show 0 = bI (decide (pS T e a < pX T e a)); rw [decide_eq_false (by omega)]; rfl) (hP.sub [0, 1] rfl) (hK.sub [0] rfl) (hD.sub [0, 1] (by decide) rfl) hS d_Num_findPower_200
                    · have e192 : ¬ pX T e a ≤ pS T e a := fun z => c192 ((nI_leI (by omega) (by omega)).mpr z)
                      refine lv_iconst (v := 1) hx hb d_Num_findPower_195 (by decide) ?_
                      refine lv_goto (tgt := 200) hx hb d_Num_findPower_196 (by decide) ?_
                      rw [show nI (pX T e a) = nI (pAt hex T e a) by unfold pAt; rw [e34]; rfl, show zI (-((min (pE T e a) 1000000 : Nat) : Int)) = zI (pPw 1000000 hex T e a) by unfold pPw; rw [e34, e175]; rfl] at hP hD
                      exact rt_i hx hb hrt hlocks (rfl) (()) (by unfold pOk; rw [e34]; show 1 = bI (decide (pS T e a < pX T e a)); rw [decide_eq_true (by omega)]; rfl) (hP.sub [0, 1] rfl) (hK.sub [0] rfl) (hD.sub [0, 1] (by decide) rfl) hS d_Num_findPower_200
                · have e129 : dg (T k) < 10 := Nat.lt_of_not_le (fun z => c129 ((nI_leI (a := 10) (by decide) (by have := dg_le (T k); omega)).mpr z))
                  refine lv_aload_n hx hb d_Num_findPower_132 rfl (lv_at hl 0 rfl) ?_
                  refine lv_aload_n hx hb d_Num_findPower_133 rfl (lv_at hl 0 rfl) ?_
                  refine va_get (D := D) (ci := 3) (v := .int (zI ((min (xv T (pS T e a) (k - pS T e a)) 1000000 : Nat) : Int))) (C := R_Num) (T := F_Num) (N := 8) hx hb hts w_Num hown hK hP 0 rfl rfl 7 (by decide) (hts _ kF_Num_93) (fun _ h9 => h9) rfl d_Num_findPower_134 ?_
                  refine lv_bipush (v := 10) hx hb d_Num_findPower_137 (by decide) ?_
                  refine lv_imul hx hb d_Num_findPower_139 ?_
                  refine lv_aload_n hx hb d_Num_findPower_140 rfl (lv_at hl 0 rfl) ?_
                  refine va_get (D := D) (ci := 3) (v := .ref x) (C := R_Num) (T := F_Num) (N := 8) hx hb hts w_Num hown hK hP 0 rfl rfl 0 (by decide) (hts _ kF_Num_9) (fun _ h9 => h9) rfl d_Num_findPower_141 ?_
                  refine lv_aload_n hx hb d_Num_findPower_144 rfl (lv_at hl 0 rfl) ?_
                  refine va_get (D := D) (ci := 3) (v := .int (nI k)) (C := R_Num) (T := F_Num) (N := 8) hx hb hts w_Num hown hK hP 0 rfl rfl 1 (by decide) (hts _ kF_Num_27) (fun _ h9 => h9) rfl d_Num_findPower_145 ?_
                  refine va_cald hx hb hK hP 1 0 rfl rfl (i := nI k) (vp_in_nI (show k < 2400 by omega) (by decide)) d_Num_findPower_148 ?_
                  refine tv_i (nI (T (k))) (by rw [nI_clamp (by omega)]; rfl) ?_
                  refine ca_i [(nm, .inr (3, [.ref x, .int (nI k), .int (nI e), .int mi, .int (nI (if hex then 4 else 3)), .int fr, .int to, .int (zI ((min (xv T (pS T e a) (k - pS T e a)) 1000000 : Nat) : Int))])), (x, .inl (cC, 2400, .inl (tx T)))] (va_runSN (As := [.int (nI (T (k)))]) (rest := [.int ((zI ((min (xv T (pS T e a) (k - pS T e a)) 1000000 : Nat) : Int)) * 10), .ref nm]) ⟨hx, hb, hml, hown, hts⟩ (c_Rea_digitOf l D E (T (k)) (by have := hT k; omega) H.size) (xSN 1 hts kC_Rea_digitOf hE.1.1 kT_Rea_digitOf kN_Rea rfl rfl (by decide +kernel) ⟨Nat.le_of_ble_eq_true rfl, Nat.le_of_ble_eq_true rfl⟩) ⟨ct_blind hev, ct_pre hev hP hK hD hS hA hE [] rfl (by decide) [] rfl⟩ rfl rfl hl.1 rfl (lv_room (Nat.le_of_ble_eq_true rfl)) d_Num_findPower_149 ⟨Nat.le_of_ble_eq_true rfl, Nat.le_of_ble_eq_true rfl⟩) hP hD hS hA [] [0, 1] rfl rfl (by decide) (by decide) (fun rv u H locs hw hP hD hS hK1 => ?_)
                  subst hw
                  have hP : va_P D vcl [(nm, .inr (3, [.ref x, .int (nI k), .int (nI e), .int mi, .int (nI (if hex then 4 else 3)), .int fr, .int to, .int (zI ((min (xv T (pS T e a) (k - pS T e a)) 1000000 : Nat) : Int))])), (x, .inl (cC, 2400, .inl (tx T)))] H := hP
                  have hD : va_D A [(nm, .inr (3, [.ref x, .int (nI k), .int (nI e), .int mi, .int (nI (if hex then 4 else 3)), .int fr, .int to, .int (zI ((min (xv T (pS T e a) (k - pS T e a)) 1000000 : Nat) : Int))])), (x, .inl (cC, 2400, .inl (tx T)))] := hD
                  refine lv_iadd hx hb d_Num_findPower_152 ?_
                  refine tv_i (zI ((min (xv T (pS T e a) (k - pS T e a)) 1000000 * 10 + dg (T k) : Nat) : Int)) (by show zI _ * zI 10 + nI _ = _; rw [zI_mul, ← zI_nI, zI_add]; exact congrArg zI (by omega)) ?_
                  refine lv_ldc hx hb hown (hts _ kK_Num_96) d_Num_findPower_153 ?_
                  refine va_mmin hx hb (by rw [hml]; exact hl.1.symm) hown (hts _ kM_Num_46) (hts _ kT_mmin) (hts _ kN_Math) (hts _ kC_mmin) (Nat.le_of_ble_eq_true rfl) (Nat.le_of_ble_eq_true rfl) (Nat.le_of_ble_eq_true rfl) (Nat.le_of_ble_eq_true rfl) d_Num_findPower_155 ?_
                  refine tv_i (zI ((min (xv T (pS T e a) ((k + 1) - pS T e a)) 1000000 : Nat) : Int)) (pw_min hk1) ?_
                  refine va_put (D := D) (ci := 3) (v := .int (zI ((min (xv T (pS T e a) ((k + 1) - pS T e a)) 1000000 : Nat) : Int))) (ty := .int) (C := R_Num) (T := F_Num) (N := 8) hx hb hts w_Num t_Num tk_Num n_Num hown hK hP hD hS 0 rfl rfl 7 (by decide) (hts _ kF_Num_93) (fun _ h9 => h9) rfl (by decide +kernel) (rfl) (rfl) (Nat.le_of_ble_eq_true rfl) d_Num_findPower_158 (fun H locs hP hD hS => ?_)
                  have hP : va_P D vcl [(nm, .inr (3, [.ref x, .int (nI k), .int (nI e), .int mi, .int (nI (if hex then 4 else 3)), .int fr, .int to, .int (zI ((min (xv T (pS T e a) ((k + 1) - pS T e a)) 1000000 : Nat) : Int))])), (x, .inl (cC, 2400, .inl (tx T)))] H := hP
                  have hD : va_D A [(nm, .inr (3, [.ref x, .int (nI k), .int (nI e), .int mi, .int (nI (if hex then 4 else 3)), .int fr, .int to, .int (zI ((min (xv T (pS T e a) ((k + 1) - pS T e a)) 1000000 : Nat) : Int))])), (x, .inl (cC, 2400, .inl (tx T)))] := hD
                  refine lv_aload_n hx hb d_Num_findPower_161 rfl (lv_at hl 0 rfl) ?_
                  refine lv_dup hx hb d_Num_findPower_162 rfl ?_
                  refine va_get (D := D) (ci := 3) (v := .int (nI k)) (C := R_Num) (T := F_Num) (N := 8) hx hb hts w_Num hown hK hP 0 rfl rfl 1 (by decide) (hts _ kF_Num_27) (fun _ h9 => h9) rfl d_Num_findPower_163 ?_
                  refine lv_iconst (v := 1) hx hb d_Num_findPower_166 (by decide) ?_
                  refine lv_iadd hx hb d_Num_findPower_167 ?_
                  refine tv_i (nI (k + 1)) (nI_1 k) ?_
                  refine va_put (D := D) (ci := 3) (v := .int (nI (k + 1))) (ty := .int) (C := R_Num) (T := F_Num) (N := 8) hx hb hts w_Num t_Num tk_Num n_Num hown hK hP hD hS 0 rfl rfl 1 (by decide) (hts _ kF_Num_27) (fun _ h9 => h9) rfl (by decide +kernel) (rfl) (rfl) (Nat.le_of_ble_eq_true rfl) d_Num_findPower_168 (fun H locs hP hD hS => ?_)
                  have hP : va_P D vcl [(nm, .inr (3, [.ref x, .int (nI (k + 1)), .int (nI e), .int mi, .int (nI (if hex then 4 else 3)), .int fr, .int to, .int (zI ((min (xv T (pS T e a) ((k + 1) - pS T e a)) 1000000 : Nat) : Int))])), (x, .inl (cC, 2400, .inl (tx T)))] H := hP
                  have hD : va_D A [(nm, .inr (3, [.ref x, .int (nI (k + 1)), .int (nI e), .int mi, .int (nI (if hex then 4 else 3)), .int fr, .int to, .int (zI ((min (xv T (pS T e a) ((k + 1) - pS T e a)) 1000000 : Nat) : Int))])), (x, .inl (cC, 2400, .inl (tx T)))] := hD
                  refine lv_goto (tgt := 104) hx hb d_Num_findPower_171 (by decide) ?_
                  exact ih (k + 1) (by omega) (by omega) (by omega) (by rw [← sk_t e112 e129]; exact hv) _ _ _ (hP.sub [0, 1] rfl) (hD.sub [0, 1] (by decide) rfl) hS (lv_sub hl [0, 1, 2] rfl)
          exact L104 (e - pS T e a + 1) (pS T e a) (by omega) (Nat.le_refl _) (hps.1) (rfl) _ _ _ (hP.sub [0, 1] rfl) (hD.sub [0, 1] (by decide) rfl) hS (lv_sub hl [3, 1, 0] rfl)
        · exact absurd ((bI_0 _).mp c77) (by rw [show ngB T e a = true from decide_eq_true e67]; decide)
    · have e34 : mkB hex T e a = false := (bI_0 _).mp c34
      refine lv_aload_n hx hb d_Num_findPower_37 rfl (lv_at hl 1 rfl) ?_
      refine va_get (D := D) (ci := 3) (v := .int (nI (if hex then 4 else 3))) (C := R_Num) (T := F_Num) (N := 8) hx hb hts w_Num hown hK hP 0 rfl rfl 4 (by decide) (hts _ kF_Num_37) (fun _ h9 => h9) rfl d_Num_findPower_38 ?_
      refine lv_iconst (v := 3) hx hb d_Num_findPower_41 (by decide) ?_
      refine lv_icmp_ne (tgt := 49) hx hb d_Num_findPower_42 (by decide) (fun c42 => ?_) (fun c42 => ?_)
      · refine lv_iconst (v := 0) hx hb d_Num_findPower_49 (by decide) ?_
        rw [show nI a = nI (pAt hex T e a) by unfold pAt; rw [e34]; rfl, show zI 0 = zI (pPw 1000000 hex T e a) by unfold pPw; rw [e34]; rfl] at hP hD
        exact rt_i hx hb hrt hlocks (rfl) (()) (by unfold pOk; rw [e34]; cases hex; (· exact absurd rfl c42); rfl) (hP.sub [0, 1] rfl) (hK.sub [0] rfl) (hD.sub [0, 1] (by decide) rfl) hS d_Num_findPower_50
      · refine lv_iconst (v := 1) hx hb d_Num_findPower_45 (by decide) ?_
        refine lv_goto (tgt := 50) hx hb d_Num_findPower_46 (by decide) ?_
        rw [show nI a = nI (pAt hex T e a) by unfold pAt; rw [e34]; rfl, show zI 0 = zI (pPw 1000000 hex T e a) by unfold pPw; rw [e34]; rfl] at hP hD
        exact rt_i hx hb hrt hlocks (rfl) (()) (by unfold pOk; rw [e34]; cases hex; (· rfl); exact absurd c42 (by decide)) (hP.sub [0, 1] rfl) (hK.sub [0] rfl) (hD.sub [0, 1] (by decide) rfl) hS d_Num_findPower_50
  · have e10 : hex = true := by cases hex; (· exact absurd c10 (by decide)); rfl
    refine lv_aload_n hx hb d_Num_findPower_13 rfl (lv_at hl 0 rfl) ?_
    refine lv_bipush (v := 112) hx hb d_Num_findPower_14 (by decide) ?_
    refine lv_bipush (v := 80) hx hb d_Num_findPower_16 (by decide) ?_
    refine ca_i [] (va_runV (As := [.int 112, .int 80]) (rest := []) ⟨hx, hb, hml, hown, hts⟩ (c_Num_isHere l D E nm x cC T hT mi (nI (if hex then 4 else 3)) fr to (zI 0) a e (hae) (he) 112 80 (by decide) (by decide) H.size) (xV 2 hts kC_Num_isHere kM_Num_75 kI_Num_isHere kS_Num_isHere kN_Num rfl rfl (by decide +kernel) ⟨Nat.le_of_ble_eq_true rfl, Nat.le_of_ble_eq_true rfl⟩) ⟨ct_blind hev, va_recv hK hP (ci := 3) (q0 := 0) rfl rfl, ct_pre hev hP hK hD hS hA hE [0, 1] rfl (by decide) [0] rfl⟩ rfl rfl hl.1 rfl (lv_room (Nat.le_of_ble_eq_true rfl)) d_Num_findPower_18 ⟨Nat.le_of_ble_eq_true rfl, Nat.le_of_ble_eq_true rfl⟩) hP hD hS hA [0, 1] [] rfl rfl (by decide) (by decide) (fun rv u H locs hw hP hD hS hK1 => ?_)
    subst hw
    have hP : va_P D vcl [(nm, .inr (3, [.ref x, .int (nI a), .int (nI e), .int mi, .int (nI (if hex then 4 else 3)), .int fr, .int to, .int (zI 0)])), (x, .inl (cC, 2400, .inl (tx T)))] H := hP
    have hD : va_D A [(nm, .inr (3, [.ref x, .int (nI a), .int (nI e), .int mi, .int (nI (if hex then 4 else 3)), .int fr, .int to, .int (zI 0)])), (x, .inl (cC, 2400, .inl (tx T)))] := hD
    refine tv_i (bI (mkB hex T e a)) (by unfold mkB; rw [e10]; rfl) ?_
    refine lv_goto (tgt := 32) hx hb d_Num_findPower_21 (by decide) ?_
    refine lv_istore_n (lv' := [(1, .int (bI (mkB hex T e a))), (0, .ref nm)]) hx hb d_Num_findPower_32 rfl hl (by decide) rfl (fun ls hl => ?_)
    refine lv_iload_n hx hb d_Num_findPower_33 rfl (lv_at hl 0 rfl) ?_
    refine lv_if_ne (tgt := 51) hx hb d_Num_findPower_34 (by decide) (fun c34 => ?_) (fun c34 => ?_)
    · have e34 : mkB hex T e a = true := tt_of (fun z => c34 ((bI_0 _).mpr z))
      have hmk := mk_lt e34
      have hps := pS_le (T := T) hmk
      refine lv_aload_n hx hb d_Num_findPower_51 rfl (lv_at hl 1 rfl) ?_
      refine lv_dup hx hb d_Num_findPower_52 rfl ?_
      refine va_get (D := D) (ci := 3) (v := .int (nI a)) (C := R_Num) (T := F_Num) (N := 8) hx hb hts w_Num hown hK hP 0 rfl rfl 1 (by decide) (hts _ kF_Num_27) (fun _ h9 => h9) rfl d_Num_findPower_53 ?_
      refine lv_iconst (v := 1) hx hb d_Num_findPower_56 (by decide) ?_
      refine lv_iadd hx hb d_Num_findPower_57 ?_
      refine tv_i (nI (a + 1)) (nI_1 a) ?_
      refine va_put (D := D) (ci := 3) (v := .int (nI (a + 1))) (ty := .int) (C := R_Num) (T := F_Num) (N := 8) hx hb hts w_Num t_Num tk_Num n_Num hown hK hP hD hS 0 rfl rfl 1 (by decide) (hts _ kF_Num_27) (fun _ h9 => h9) rfl (by decide +kernel) (rfl) (rfl) (Nat.le_of_ble_eq_true rfl) d_Num_findPower_58 (fun H locs hP hD hS => ?_)
      have hP : va_P D vcl [(nm, .inr (3, [.ref x, .int (nI (a + 1)), .int (nI e), .int mi, .int (nI (if hex then 4 else 3)), .int fr, .int to, .int (zI 0)])), (x, .inl (cC, 2400, .inl (tx T)))] H := hP
      have hD : va_D A [(nm, .inr (3, [.ref x, .int (nI (a + 1)), .int (nI e), .int mi, .int (nI (if hex then 4 else 3)), .int fr, .int to, .int (zI 0)])), (x, .inl (cC, 2400, .inl (tx T)))] := hD
      refine lv_aload_n hx hb d_Num_findPower_61 rfl (lv_at hl 1 rfl) ?_
      refine ca_i [] (va_runV (As := []) (rest := []) ⟨hx, hb, hml, hown, hts⟩ (c_Num_here l D E nm x cC T hT mi (nI (if hex then 4 else 3)) fr to (zI 0) (a + 1) e (by omega) (he) H.size) (xV 0 hts kC_Num_here kM_Num_19 kI_Num_here kS_Num_here kN_Num rfl rfl (by decide +kernel) ⟨Nat.le_of_ble_eq_true rfl, Nat.le_of_ble_eq_true rfl⟩) ⟨ct_blind hev, va_recv hK hP (ci := 3) (q0 := 0) rfl rfl, ct_pre hev hP hK hD hS hA hE [0, 1] rfl (by decide) [0] rfl⟩ rfl rfl hl.1 rfl (lv_room (Nat.le_of_ble_eq_true rfl)) d_Num_findPower_62 ⟨Nat.le_of_ble_eq_true rfl, Nat.le_of_ble_eq_true rfl⟩) hP hD hS hA [0, 1] [] rfl rfl (by decide) (by decide) (fun rv u H locs hw hP hD hS hK1 => ?_)
      subst hw
      have hP : va_P D vcl [(nm, .inr (3, [.ref x, .int (nI (a + 1)), .int (nI e), .int mi, .int (nI (if hex then 4 else 3)), .int fr, .int to, .int (zI 0)])), (x, .inl (cC, 2400, .inl (tx T)))] H := hP
      have hD : va_D A [(nm, .inr (3, [.ref x, .int (nI (a + 1)), .int (nI e), .int mi, .int (nI (if hex then 4 else 3)), .int fr, .int to, .int (zI 0)])), (x, .inl (cC, 2400, .inl (tx T)))] := hD
      refine lv_bipush (v := 45) hx hb d_Num_findPower_65 (by decide) ?_
      refine lv_icmp_ne (tgt := 74) hx hb d_Num_findPower_67 (by decide) (fun c67 => ?_) (fun c67 => ?_)
      · have e67 : ¬ lk T e (a + 1) = 45 := fun z => c67 (by rw [z]; rfl)
        refine lv_iconst (v := 0) hx hb d_Num_findPower_74 (by decide) ?_
        refine tv_i (bI (ngB T e a)) (by rw [show ngB T e a = false from decide_eq_false e67]; rfl) ?_
        refine lv_istore_n (lv' := [(2, .int (bI (ngB T e a))), (1, .int (bI (mkB hex T e a))), (0, .ref nm)]) hx hb d_Num_findPower_75 rfl hl (by decide) rfl (fun ls hl => ?_)
        refine lv_iload_n hx hb d_Num_findPower_76 rfl (lv_at hl 0 rfl) ?_
        refine lv_if_ne (tgt := 89) hx hb d_Num_findPower_77 (by decide) (fun c77 => ?_) (fun c77 => ?_)
        · exact absurd ((bI_0 _).mpr (decide_eq_false e67)) c77
        · refine lv_aload_n hx hb d_Num_findPower_80 rfl (lv_at hl 2 rfl) ?_
          refine ca_i [] (va_runV (As := []) (rest := []) ⟨hx, hb, hml, hown, hts⟩ (c_Num_here l D E nm x cC T hT mi (nI (if hex then 4 else 3)) fr to (zI 0) (a + 1) e (by omega) (he) H.size) (xV 0 hts kC_Num_here kM_Num_19 kI_Num_here kS_Num_here kN_Num rfl rfl (by decide +kernel) ⟨Nat.le_of_ble_eq_true rfl, Nat.le_of_ble_eq_true rfl⟩) ⟨ct_blind hev, va_recv hK hP (ci := 3) (q0 := 0) rfl rfl, ct_pre hev hP hK hD hS hA hE [0, 1] rfl (by decide) [0] rfl⟩ rfl rfl hl.1 rfl (lv_room (Nat.le_of_ble_eq_true rfl)) d_Num_findPower_81 ⟨Nat.le_of_ble_eq_true rfl, Nat.le_of_ble_eq_true rfl⟩) hP hD hS hA [0, 1] [] rfl rfl (by decide) (by decide) (fun rv u H locs hw hP hD hS hK1 => ?_)
          subst hw
          have hP : va_P D vcl [(nm, .inr (3, [.ref x, .int (nI (a + 1)), .int (nI e), .int mi, .int (nI (if hex then 4 else 3)), .int fr, .int to, .int (zI 0)])), (x, .inl (cC, 2400, .inl (tx T)))] H := hP
          have hD : va_D A [(nm, .inr (3, [.ref x, .int (nI (a + 1)), .int (nI e), .int mi, .int (nI (if hex then 4 else 3)), .int fr, .int to, .int (zI 0)])), (x, .inl (cC, 2400, .inl (tx T)))] := hD
          refine lv_bipush (v := 43) hx hb d_Num_findPower_84 (by decide) ?_
          refine lv_icmp_ne (tgt := 99) hx hb d_Num_findPower_86 (by decide) (fun c86 => ?_) (fun c86 => ?_)
          · have e86 : ¬ lk T e (a + 1) = 43 := fun z => c86 (by rw [z]; rfl)
            have hps2 : pS T e a = a + 1 := by unfold pS; rw [if_neg (fun z => z.elim e67 e86)]
            rw [← hps2] at hP hD
            rw [show zI 0 = zI ((min (xv T (pS T e a) (pS T e a - pS T e a)) 1000000 : Nat) : Int) from by rw [Nat.sub_self]; rfl] at hP hD
            refine lv_aload_n hx hb d_Num_findPower_99 rfl (lv_at hl 2 rfl) ?_
            refine va_get (D := D) (ci := 3) (v := .int (nI (pS T e a))) (C := R_Num) (T := F_Num) (N := 8) hx hb hts w_Num hown hK hP 0 rfl rfl 1 (by decide) (hts _ kF_Num_27) (fun _ h9 => h9) rfl d_Num_findPower_100 ?_
            refine lv_istore_n (lv' := [(3, .int (nI (pS T e a))), (2, .int (bI (ngB T e a))), (1, .int (bI (mkB hex T e a))), (0, .ref nm)]) hx hb d_Num_findPower_103 rfl hl (by decide) rfl (fun ls hl => ?_)
            have L104 : ∀ (kk : Nat) (k : Nat), e - k < kk → (pS T e a ≤ k) → (k ≤ e) → (sk 10 T e k = sk 10 T e (pS T e a)) → ∀ (H : Heap) (locs : List Loc) (ls : Array Slot), va_P D vcl [(nm, .inr (3, [.ref x, .int (nI k), .int (nI e), .int mi, .int (nI (if hex then 4 else 3)), .int fr, .int to, .int (zI ((min (xv T (pS T e a) (k - pS T e a)) 1000000 : Nat) : Int))])), (x, .inl (cC, 2400, .inl (tx T)))] H → va_D A [(nm, .inr (3, [.ref x, .int (nI k), .int (nI e), .int mi, .int (nI (if hex then 4 else 3)), .int fr, .int to, .int (zI ((min (xv T (pS T e a) (k - pS T e a)) 1000000 : Nat) : Int))])), (x, .inl (cC, 2400, .inl (tx T)))] → va_S A s.heap H locs → lv_has ls 4 [(0, .ref nm), (2, .int (bI (ngB T e a))), (3, .int (nI (pS T e a)))] → W p l ee ({ frames := 2, cells := 0, slots := 0, locals := 42 }) s m ([.ref nm] : List Value).toArray below meth cde H locs 0 0 (MQ below (va_Qi (S := Unit) (fun (r : Int32) (_ : Unit) => r = bI (pOk hex T e a)) (fun u tS => ctB D vcl ((fun _ => [(cC, .char)]) u) ((fun _ : Unit => [(nm, .inr (3, [.ref x, .int (nI (pAt hex T e a)), .int (nI e), .int mi, .int (nI (if hex then 4 else 3)), .int fr, .int to, .int (zI (pPw 1000000 hex T e a))])), (x, .inl (cC, 2400, .inl (tx T)))]) u) A tS) A) ([.ref nm] : List Value).toArray s 0 0 A) (F0 m 104 ls []) := by
              intro kk
              induction kk with
              | zero => intro k hmz; exact absurd hmz (Nat.not_lt_zero _)
              | succ kk ih =>
                intro k hmz hk1 hke hv H locs ls hP hD hS hl
                refine lv_aload_n hx hb d_Num_findPower_104 rfl (lv_at hl 0 rfl) ?_
                refine va_get (D := D) (ci := 3) (v := .int (nI k)) (C := R_Num) (T := F_Num) (N := 8) hx hb hts w_Num hown hK hP 0 rfl rfl 1 (by decide) (hts _ kF_Num_27) (fun _ h9 => h9) rfl d_Num_findPower_105 ?_
                refine lv_aload_n hx hb d_Num_findPower_108 rfl (lv_at hl 0 rfl) ?_
                refine va_get (D := D) (ci := 3) (v := .int (nI e)) (C := R_Num) (T := F_Num) (N := 8) hx hb hts w_Num hown hK hP 0 rfl rfl 2 (by decide) (hts _ kF_Num_52) (fun _ h9 => h9) rfl d_Num_findPower_109 ?_
                refine lv_icmp_ge (tgt := 174) hx hb d_Num_findPower_112 (by decide) (fun c112 => ?_) (fun c112 => ?_)
                · have e112 : e ≤ k := (nI_leI (by omega) (by omega)).mp c112
                  have hkx : k = pX T e a := by unfold pX; rw [← hv]; exact (sk_f (fun z => absurd z.1 (by omega))).symm
                  rw [hkx] at hP hD
                  have hP : va_P D vcl [(nm, .inr (3, [.ref x, .int (nI (pX T e a)), .int (nI e), .int mi, .int (nI (if hex then 4 else 3)), .int fr, .int to, .int (zI ((min (pE T e a) 1000000 : Nat) : Int))])), (x, .inl (cC, 2400, .inl (tx T)))] H := hP
                  have hD : va_D A [(nm, .inr (3, [.ref x, .int (nI (pX T e a)), .int (nI e), .int mi, .int (nI (if hex then 4 else 3)), .int fr, .int to, .int (zI ((min (pE T e a) 1000000 : Nat) : Int))])), (x, .inl (cC, 2400, .inl (tx T)))] := hD
                  refine lv_iload_n hx hb d_Num_findPower_174 rfl (lv_at hl 1 rfl) ?_
                  refine lv_if_eq (tgt := 187) hx hb d_Num_findPower_175 (by decide) (fun c175 => ?_) (fun c175 => ?_)
                  · have e175 : ngB T e a = false := (bI_0 _).mp c175
                    refine lv_aload_n hx hb d_Num_findPower_187 rfl (lv_at hl 0 rfl) ?_
                    refine va_get (D := D) (ci := 3) (v := .int (nI (pX T e a))) (C := R_Num) (T := F_Num) (N := 8) hx hb hts w_Num hown hK hP 0 rfl rfl 1 (by decide) (hts _ kF_Num_27) (fun _ h9 => h9) rfl d_Num_findPower_188 ?_
                    refine lv_iload_n hx hb d_Num_findPower_191 rfl (lv_at hl 2 rfl) ?_
                    refine lv_icmp_le (tgt := 199) hx hb d_Num_findPower_192 (by decide) (fun c192 => ?_) (fun c192 => ?_)
                    · have e192 : pX T e a ≤ pS T e a := (nI_leI (by omega) (by omega)).mp c192
                      refine lv_iconst (v := 0) hx hb d_Num_findPower_199 (by decide) ?_
                      rw [show nI (pX T e a) = nI (pAt hex T e a) by unfold pAt; rw [e34]; rfl, show zI ((min (pE T e a) 1000000 : Nat) : Int) = zI (pPw 1000000 hex T e a) by unfold pPw; rw [e34, e175]; rfl] at hP hD
                      exact rt_i hx hb hrt hlocks (rfl) (()) (by unfold pOk; rw [e34]; show 0 = bI (decide (pS T e a < pX T e a)); rw [decide_eq_false (by omega)]; rfl) (hP.sub [0, 1] rfl) (hK.sub [0] rfl) (hD.sub [0, 1] (by decide) rfl) hS d_Num_findPower_200
                    · have e192 : ¬ pX T e a ≤ pS T e a := fun z => c192 ((nI_leI (by omega) (by omega)).mpr z)
                      refine lv_iconst (v := 1) hx hb d_Num_findPower_195 (by decide) ?_
                      refine lv_goto (tgt := 200) hx hb d_Num_findPower_196 (by decide) ?_
                      rw [show nI (pX T e a) = nI (pAt hex T e a) by unfold pAt; rw [e34]; rfl, show zI ((min (pE T e a) 1000000 : Nat) : Int) = zI (pPw 1000000 hex T e a) by unfold pPw; rw [e34, e175]; rfl] at hP hD
                      exact rt_i hx hb hrt hlocks (rfl) (()) (by unfold pOk; rw [e34]; show 1 = bI (decide (pS T e a < pX T e a)); rw [decide_eq_true (by omega)]; rfl) (hP.sub [0, 1] rfl) (hK.sub [0] rfl) (hD.sub [0, 1] (by decide) rfl) hS d_Num_findPower_200
                  · have e175 : ngB T e a = true := tt_of (fun z => c175 ((bI_0 _).mpr z))
                    refine lv_aload_n hx hb d_Num_findPower_178 rfl (lv_at hl 0 rfl) ?_
                    refine lv_aload_n hx hb d_Num_findPower_179 rfl (lv_at hl 0 rfl) ?_
                    refine va_get (D := D) (ci := 3) (v := .int (zI ((min (pE T e a) 1000000 : Nat) : Int))) (C := R_Num) (T := F_Num) (N := 8) hx hb hts w_Num hown hK hP 0 rfl rfl 7 (by decide) (hts _ kF_Num_93) (fun _ h9 => h9) rfl d_Num_findPower_180 ?_
                    refine lv_ineg hx hb d_Num_findPower_183 ?_
                    refine tv_i (zI (-((min (pE T e a) 1000000 : Nat) : Int))) (zI_neg _) ?_
                    refine va_put (D := D) (ci := 3) (v := .int (zI (-((min (pE T e a) 1000000 : Nat) : Int)))) (ty := .int) (C := R_Num) (T := F_Num) (N := 8) hx hb hts w_Num t_Num tk_Num n_Num hown hK hP hD hS 0 rfl rfl 7 (by decide) (hts _ kF_Num_93) (fun _ h9 => h9) rfl (by decide +kernel) (rfl) (rfl) (Nat.le_of_ble_eq_true rfl) d_Num_findPower_184 (fun H locs hP hD hS => ?_)
                    have hP : va_P D vcl [(nm, .inr (3, [.ref x, .int (nI (pX T e a)), .int (nI e), .int mi, .int (nI (if hex then 4 else 3)), .int fr, .int to, .int (zI (-((min (pE T e a) 1000000 : Nat) : Int)))])), (x, .inl (cC, 2400, .inl (tx T)))] H := hP
                    have hD : va_D A [(nm, .inr (3, [.ref x, .int (nI (pX T e a)), .int (nI e), .int mi, .int (nI (if hex then 4 else 3)), .int fr, .int to, .int (zI (-((min (pE T e a) 1000000 : Nat) : Int)))])), (x, .inl (cC, 2400, .inl (tx T)))] := hD
                    refine lv_aload_n hx hb d_Num_findPower_187 rfl (lv_at hl 0 rfl) ?_
                    refine va_get (D := D) (ci := 3) (v := .int (nI (pX T e a))) (C := R_Num) (T := F_Num) (N := 8) hx hb hts w_Num hown hK hP 0 rfl rfl 1 (by decide) (hts _ kF_Num_27) (fun _ h9 => h9) rfl d_Num_findPower_188 ?_
                    refine lv_iload_n hx hb d_Num_findPower_191 rfl (lv_at hl 2 rfl) ?_
                    refine lv_icmp_le (tgt := 199) hx hb d_Num_findPower_192 (by decide) (fun c192 => ?_) (fun c192 => ?_)
                    · have e192 : pX T e a ≤ pS T e a := (nI_leI (by omega) (by omega)).mp c192
                      refine lv_iconst (v := 0) hx hb d_Num_findPower_199 (by decide) ?_
                      rw [show nI (pX T e a) = nI (pAt hex T e a) by unfold pAt; rw [e34]; rfl, show zI (-((min (pE T e a) 1000000 : Nat) : Int)) = zI (pPw 1000000 hex T e a) by unfold pPw; rw [e34, e175]; rfl] at hP hD
                      exact rt_i hx hb hrt hlocks (rfl) (()) (by unfold pOk; rw [e34]; show 0 = bI (decide (pS T e a < pX T e a)); rw [decide_eq_false (by omega)]; rfl) (hP.sub [0, 1] rfl) (hK.sub [0] rfl) (hD.sub [0, 1] (by decide) rfl) hS d_Num_findPower_200
                    · have e192 : ¬ pX T e a ≤ pS T e a := fun z => c192 ((nI_leI (by omega) (by omega)).mpr z)
                      refine lv_iconst (v := 1) hx hb d_Num_findPower_195 (by decide) ?_
                      refine lv_goto (tgt := 200) hx hb d_Num_findPower_196 (by decide) ?_
                      rw [show nI (pX T e a) = nI (pAt hex T e a) by unfold pAt; rw [e34]; rfl, show zI (-((min (pE T e a) 1000000 : Nat) : Int)) = zI (pPw 1000000 hex T e a) by unfold pPw; rw [e34, e175]; rfl] at hP hD
                      exact rt_i hx hb hrt hlocks (rfl) (()) (by unfold pOk; rw [e34]; show 1 = bI (decide (pS T e a < pX T e a)); rw [decide_eq_true (by omega)]; rfl) (hP.sub [0, 1] rfl) (hK.sub [0] rfl) (hD.sub [0, 1] (by decide) rfl) hS d_Num_findPower_200
                · have e112 : k < e := Nat.lt_of_not_le (fun z => c112 ((nI_leI (by omega) (by omega)).mpr z))
                  refine lv_aload_n hx hb d_Num_findPower_115 rfl (lv_at hl 0 rfl) ?_
                  refine va_get (D := D) (ci := 3) (v := .ref x) (C := R_Num) (T := F_Num) (N := 8) hx hb hts w_Num hown hK hP 0 rfl rfl 0 (by decide) (hts _ kF_Num_9) (fun _ h9 => h9) rfl d_Num_findPower_116 ?_
                  refine lv_aload_n hx hb d_Num_findPower_119 rfl (lv_at hl 0 rfl) ?_
                  refine va_get (D := D) (ci := 3) (v := .int (nI k)) (C := R_Num) (T := F_Num) (N := 8) hx hb hts w_Num hown hK hP 0 rfl rfl 1 (by decide) (hts _ kF_Num_27) (fun _ h9 => h9) rfl d_Num_findPower_120 ?_
                  refine va_cald hx hb hK hP 1 0 rfl rfl (i := nI k) (vp_in_nI (show k < 2400 by omega) (by decide)) d_Num_findPower_123 ?_
                  refine tv_i (nI (T (k))) (by rw [nI_clamp (by omega)]; rfl) ?_
                  refine ca_i [(nm, .inr (3, [.ref x, .int (nI k), .int (nI e), .int mi, .int (nI (if hex then 4 else 3)), .int fr, .int to, .int (zI ((min (xv T (pS T e a) (k - pS T e a)) 1000000 : Nat) : Int))])), (x, .inl (cC, 2400, .inl (tx T)))] (va_runSN (As := [.int (nI (T (k)))]) (rest := []) ⟨hx, hb, hml, hown, hts⟩ (c_Rea_digitOf l D E (T (k)) (by have := hT k; omega) H.size) (xSN 1 hts kC_Rea_digitOf hE.1.1 kT_Rea_digitOf kN_Rea rfl rfl (by decide +kernel) ⟨Nat.le_of_ble_eq_true rfl, Nat.le_of_ble_eq_true rfl⟩) ⟨ct_blind hev, ct_pre hev hP hK hD hS hA hE [] rfl (by decide) [] rfl⟩ rfl rfl hl.1 rfl (lv_room (Nat.le_of_ble_eq_true rfl)) d_Num_findPower_124 ⟨Nat.le_of_ble_eq_true rfl, Nat.le_of_ble_eq_true rfl⟩) hP hD hS hA [] [0, 1] rfl rfl (by decide) (by decide) (fun rv u H locs hw hP hD hS hK1 => ?_)
                  subst hw
                  have hP : va_P D vcl [(nm, .inr (3, [.ref x, .int (nI k), .int (nI e), .int mi, .int (nI (if hex then 4 else 3)), .int fr, .int to, .int (zI ((min (xv T (pS T e a) (k - pS T e a)) 1000000 : Nat) : Int))])), (x, .inl (cC, 2400, .inl (tx T)))] H := hP
                  have hD : va_D A [(nm, .inr (3, [.ref x, .int (nI k), .int (nI e), .int mi, .int (nI (if hex then 4 else 3)), .int fr, .int to, .int (zI ((min (xv T (pS T e a) (k - pS T e a)) 1000000 : Nat) : Int))])), (x, .inl (cC, 2400, .inl (tx T)))] := hD
                  refine lv_bipush (v := 10) hx hb d_Num_findPower_127 (by decide) ?_
                  refine lv_icmp_ge (tgt := 174) hx hb d_Num_findPower_129 (by decide) (fun c129 => ?_) (fun c129 => ?_)
                  · have e129 : 10 ≤ dg (T k) := (nI_leI (a := 10) (by decide) (by have := dg_le (T k); omega)).mp c129
                    have hkx : k = pX T e a := by unfold pX; rw [← hv]; exact (sk_f (fun z => absurd z.2 (by omega))).symm
                    rw [hkx] at hP hD
                    have hP : va_P D vcl [(nm, .inr (3, [.ref x, .int (nI (pX T e a)), .int (nI e), .int mi, .int (nI (if hex then 4 else 3)), .int fr, .int to, .int (zI ((min (pE T e a) 1000000 : Nat) : Int))])), (x, .inl (cC, 2400, .inl (tx T)))] H := hP
                    have hD : va_D A [(nm, .inr (3, [.ref x, .int (nI (pX T e a)), .int (nI e), .int mi, .int (nI (if hex then 4 else 3)), .int fr, .int to, .int (zI ((min (pE T e a) 1000000 : Nat) : Int))])), (x, .inl (cC, 2400, .inl (tx T)))] := hD
                    refine lv_iload_n hx hb d_Num_findPower_174 rfl (lv_at hl 1 rfl) ?_
                    refine lv_if_eq (tgt := 187) hx hb d_Num_findPower_175 (by decide) (fun c175 => ?_) (fun c175 => ?_)
                    · have e175 : ngB T e a = false := (bI_0 _).mp c175
                      refine lv_aload_n hx hb d_Num_findPower_187 rfl (lv_at hl 0 rfl) ?_
                      refine va_get (D := D) (ci := 3) (v := .int (nI (pX T e a))) (C := R_Num) (T := F_Num) (N := 8) hx hb hts w_Num hown hK hP 0 rfl rfl 1 (by decide) (hts _ kF_Num_27) (fun _ h9 => h9) rfl d_Num_findPower_188 ?_
                      refine lv_iload_n hx hb d_Num_findPower_191 rfl (lv_at hl 2 rfl) ?_
                      refine lv_icmp_le (tgt := 199) hx hb d_Num_findPower_192 (by decide) (fun c192 => ?_) (fun c192 => ?_)
                      · have e192 : pX T e a ≤ pS T e a := (nI_leI (by omega) (by omega)).mp c192
                        refine lv_iconst (v := 0) hx hb d_Num_findPower_199 (by decide) ?_
                        rw [show nI (pX T e a) = nI (pAt hex T e a) by unfold pAt; rw [e34]; rfl, show zI ((min (pE T e a) 1000000 : Nat) : Int) = zI (pPw 1000000 hex T e a) by unfold pPw; rw [e34, e175]; rfl] at hP hD
                        exact rt_i hx hb hrt hlocks (rfl) (()) (by unfold pOk; rw [e34]; show 0 = bI (decide (pS T e a < pX T e a)); rw [decide_eq_false (by omega)]; rfl) (hP.sub [0, 1] rfl) (hK.sub [0] rfl) (hD.sub [0, 1] (by decide) rfl) hS d_Num_findPower_200
                      · have e192 : ¬ pX T e a ≤ pS T e a := fun z => c192 ((nI_leI (by omega) (by omega)).mpr z)
                        refine lv_iconst (v := 1) hx hb d_Num_findPower_195 (by decide) ?_
                        refine lv_goto (tgt := 200) hx hb d_Num_findPower_196 (by decide) ?_
                        rw [show nI (pX T e a) = nI (pAt hex T e a) by unfold pAt; rw [e34]; rfl, show zI ((min (pE T e a) 1000000 : Nat) : Int) = zI (pPw 1000000 hex T e a) by unfold pPw; rw [e34, e175]; rfl] at hP hD
                        exact rt_i hx hb hrt hlocks (rfl) (()) (by unfold pOk; rw [e34]; show 1 = bI (decide (pS T e a < pX T e a)); rw [decide_eq_true (by omega)]; rfl) (hP.sub [0, 1] rfl) (hK.sub [0] rfl) (hD.sub [0, 1] (by decide) rfl) hS d_Num_findPower_200
                    · have e175 : ngB T e a = true := tt_of (fun z => c175 ((bI_0 _).mpr z))
                      refine lv_aload_n hx hb d_Num_findPower_178 rfl (lv_at hl 0 rfl) ?_
                      refine lv_aload_n hx hb d_Num_findPower_179 rfl (lv_at hl 0 rfl) ?_
                      refine va_get (D := D) (ci := 3) (v := .int (zI ((min (pE T e a) 1000000 : Nat) : Int))) (C := R_Num) (T := F_Num) (N := 8) hx hb hts w_Num hown hK hP 0 rfl rfl 7 (by decide) (hts _ kF_Num_93) (fun _ h9 => h9) rfl d_Num_findPower_180 ?_
                      refine lv_ineg hx hb d_Num_findPower_183 ?_
                      refine tv_i (zI (-((min (pE T e a) 1000000 : Nat) : Int))) (zI_neg _) ?_
                      refine va_put (D := D) (ci := 3) (v := .int (zI (-((min (pE T e a) 1000000 : Nat) : Int)))) (ty := .int) (C := R_Num) (T := F_Num) (N := 8) hx hb hts w_Num t_Num tk_Num n_Num hown hK hP hD hS 0 rfl rfl 7 (by decide) (hts _ kF_Num_93) (fun _ h9 => h9) rfl (by decide +kernel) (rfl) (rfl) (Nat.le_of_ble_eq_true rfl) d_Num_findPower_184 (fun H locs hP hD hS => ?_)
                      have hP : va_P D vcl [(nm, .inr (3, [.ref x, .int (nI (pX T e a)), .int (nI e), .int mi, .int (nI (if hex then 4 else 3)), .int fr, .int to, .int (zI (-((min (pE T e a) 1000000 : Nat) : Int)))])), (x, .inl (cC, 2400, .inl (tx T)))] H := hP
                      have hD : va_D A [(nm, .inr (3, [.ref x, .int (nI (pX T e a)), .int (nI e), .int mi, .int (nI (if hex then 4 else 3)), .int fr, .int to, .int (zI (-((min (pE T e a) 1000000 : Nat) : Int)))])), (x, .inl (cC, 2400, .inl (tx T)))] := hD
                      refine lv_aload_n hx hb d_Num_findPower_187 rfl (lv_at hl 0 rfl) ?_
                      refine va_get (D := D) (ci := 3) (v := .int (nI (pX T e a))) (C := R_Num) (T := F_Num) (N := 8) hx hb hts w_Num hown hK hP 0 rfl rfl 1 (by decide) (hts _ kF_Num_27) (fun _ h9 => h9) rfl d_Num_findPower_188 ?_
                      refine lv_iload_n hx hb d_Num_findPower_191 rfl (lv_at hl 2 rfl) ?_
                      refine lv_icmp_le (tgt := 199) hx hb d_Num_findPower_192 (by decide) (fun c192 => ?_) (fun c192 => ?_)
                      · have e192 : pX T e a ≤ pS T e a := (nI_leI (by omega) (by omega)).mp c192
                        refine lv_iconst (v := 0) hx hb d_Num_findPower_199 (by decide) ?_
                        rw [show nI (pX T e a) = nI (pAt hex T e a) by unfold pAt; rw [e34]; rfl, show zI (-((min (pE T e a) 1000000 : Nat) : Int)) = zI (pPw 1000000 hex T e a) by unfold pPw; rw [e34, e175]; rfl] at hP hD
                        exact rt_i hx hb hrt hlocks (rfl) (()) (by unfold pOk; rw [e34]; show 0 = bI (decide (pS T e a < pX T e a)); rw [decide_eq_false (by omega)]; rfl) (hP.sub [0, 1] rfl) (hK.sub [0] rfl) (hD.sub [0, 1] (by decide) rfl) hS d_Num_findPower_200
                      · have e192 : ¬ pX T e a ≤ pS T e a := fun z => c192 ((nI_leI (by omega) (by omega)).mpr z)
                        refine lv_iconst (v := 1) hx hb d_Num_findPower_195 (by decide) ?_
                        refine lv_goto (tgt := 200) hx hb d_Num_findPower_196 (by decide) ?_
                        rw [show nI (pX T e a) = nI (pAt hex T e a) by unfold pAt; rw [e34]; rfl, show zI (-((min (pE T e a) 1000000 : Nat) : Int)) = zI (pPw 1000000 hex T e a) by unfold pPw; rw [e34, e175]; rfl] at hP hD
                        exact rt_i hx hb hrt hlocks (rfl) (()) (by unfold pOk; rw [e34]; show 1 = bI (decide (pS T e a < pX T e a)); rw [decide_eq_true (by omega)]; rfl) (hP.sub [0, 1] rfl) (hK.sub [0] rfl) (hD.sub [0, 1] (by decide) rfl) hS d_Num_findPower_200
                  · have e129 : dg (T k) < 10 := Nat.lt_of_not_le (fun z => c129 ((nI_leI (a := 10) (by decide) (by have := dg_le (T k); omega)).mpr z))
                    refine lv_aload_n hx hb d_Num_findPower_132 rfl (lv_at hl 0 rfl) ?_
                    refine lv_aload_n hx hb d_Num_findPower_133 rfl (lv_at hl 0 rfl) ?_
                    refine va_get (D := D) (ci := 3) (v := .int (zI ((min (xv T (pS T e a) (k - pS T e a)) 1000000 : Nat) : Int))) (C := R_Num) (T := F_Num) (N := 8) hx hb hts w_Num hown hK hP 0 rfl rfl 7 (by decide) (hts _ kF_Num_93) (fun _ h9 => h9) rfl d_Num_findPower_134 ?_
                    refine lv_bipush (v := 10) hx hb d_Num_findPower_137 (by decide) ?_
                    refine lv_imul hx hb d_Num_findPower_139 ?_
                    refine lv_aload_n hx hb d_Num_findPower_140 rfl (lv_at hl 0 rfl) ?_
                    refine va_get (D := D) (ci := 3) (v := .ref x) (C := R_Num) (T := F_Num) (N := 8) hx hb hts w_Num hown hK hP 0 rfl rfl 0 (by decide) (hts _ kF_Num_9) (fun _ h9 => h9) rfl d_Num_findPower_141 ?_
                    refine lv_aload_n hx hb d_Num_findPower_144 rfl (lv_at hl 0 rfl) ?_
                    refine va_get (D := D) (ci := 3) (v := .int (nI k)) (C := R_Num) (T := F_Num) (N := 8) hx hb hts w_Num hown hK hP 0 rfl rfl 1 (by decide) (hts _ kF_Num_27) (fun _ h9 => h9) rfl d_Num_findPower_145 ?_
                    refine va_cald hx hb hK hP 1 0 rfl rfl (i := nI k) (vp_in_nI (show k < 2400 by omega) (by decide)) d_Num_findPower_148 ?_
                    refine tv_i (nI (T (k))) (by rw [nI_clamp (by omega)]; rfl) ?_
                    refine ca_i [(nm, .inr (3, [.ref x, .int (nI k), .int (nI e), .int mi, .int (nI (if hex then 4 else 3)), .int fr, .int to, .int (zI ((min (xv T (pS T e a) (k - pS T e a)) 1000000 : Nat) : Int))])), (x, .inl (cC, 2400, .inl (tx T)))] (va_runSN (As := [.int (nI (T (k)))]) (rest := [.int ((zI ((min (xv T (pS T e a) (k - pS T e a)) 1000000 : Nat) : Int)) * 10), .ref nm]) ⟨hx, hb, hml, hown, hts⟩ (c_Rea_digitOf l D E (T (k)) (by have := hT k; omega) H.size) (xSN 1 hts kC_Rea_digitOf hE.1.1 kT_Rea_digitOf kN_Rea rfl rfl (by decide +kernel) ⟨Nat.le_of_ble_eq_true rfl, Nat.le_of_ble_eq_true rfl⟩) ⟨ct_blind hev, ct_pre hev hP hK hD hS hA hE [] rfl (by decide) [] rfl⟩ rfl rfl hl.1 rfl (lv_room (Nat.le_of_ble_eq_true rfl)) d_Num_findPower_149 ⟨Nat.le_of_ble_eq_true rfl, Nat.le_of_ble_eq_true rfl⟩) hP hD hS hA [] [0, 1] rfl rfl (by decide) (by decide) (fun rv u H locs hw hP hD hS hK1 => ?_)
                    subst hw
                    have hP : va_P D vcl [(nm, .inr (3, [.ref x, .int (nI k), .int (nI e), .int mi, .int (nI (if hex then 4 else 3)), .int fr, .int to, .int (zI ((min (xv T (pS T e a) (k - pS T e a)) 1000000 : Nat) : Int))])), (x, .inl (cC, 2400, .inl (tx T)))] H := hP
                    have hD : va_D A [(nm, .inr (3, [.ref x, .int (nI k), .int (nI e), .int mi, .int (nI (if hex then 4 else 3)), .int fr, .int to, .int (zI ((min (xv T (pS T e a) (k - pS T e a)) 1000000 : Nat) : Int))])), (x, .inl (cC, 2400, .inl (tx T)))] := hD
                    refine lv_iadd hx hb d_Num_findPower_152 ?_
                    refine tv_i (zI ((min (xv T (pS T e a) (k - pS T e a)) 1000000 * 10 + dg (T k) : Nat) : Int)) (by show zI _ * zI 10 + nI _ = _; rw [zI_mul, ← zI_nI, zI_add]; exact congrArg zI (by omega)) ?_
                    refine lv_ldc hx hb hown (hts _ kK_Num_96) d_Num_findPower_153 ?_
                    refine va_mmin hx hb (by rw [hml]; exact hl.1.symm) hown (hts _ kM_Num_46) (hts _ kT_mmin) (hts _ kN_Math) (hts _ kC_mmin) (Nat.le_of_ble_eq_true rfl) (Nat.le_of_ble_eq_true rfl) (Nat.le_of_ble_eq_true rfl) (Nat.le_of_ble_eq_true rfl) d_Num_findPower_155 ?_
                    refine tv_i (zI ((min (xv T (pS T e a) ((k + 1) - pS T e a)) 1000000 : Nat) : Int)) (pw_min hk1) ?_
                    refine va_put (D := D) (ci := 3) (v := .int (zI ((min (xv T (pS T e a) ((k + 1) - pS T e a)) 1000000 : Nat) : Int))) (ty := .int) (C := R_Num) (T := F_Num) (N := 8) hx hb hts w_Num t_Num tk_Num n_Num hown hK hP hD hS 0 rfl rfl 7 (by decide) (hts _ kF_Num_93) (fun _ h9 => h9) rfl (by decide +kernel) (rfl) (rfl) (Nat.le_of_ble_eq_true rfl) d_Num_findPower_158 (fun H locs hP hD hS => ?_)
                    have hP : va_P D vcl [(nm, .inr (3, [.ref x, .int (nI k), .int (nI e), .int mi, .int (nI (if hex then 4 else 3)), .int fr, .int to, .int (zI ((min (xv T (pS T e a) ((k + 1) - pS T e a)) 1000000 : Nat) : Int))])), (x, .inl (cC, 2400, .inl (tx T)))] H := hP
                    have hD : va_D A [(nm, .inr (3, [.ref x, .int (nI k), .int (nI e), .int mi, .int (nI (if hex then 4 else 3)), .int fr, .int to, .int (zI ((min (xv T (pS T e a) ((k + 1) - pS T e a)) 1000000 : Nat) : Int))])), (x, .inl (cC, 2400, .inl (tx T)))] := hD
                    refine lv_aload_n hx hb d_Num_findPower_161 rfl (lv_at hl 0 rfl) ?_
                    refine lv_dup hx hb d_Num_findPower_162 rfl ?_
                    refine va_get (D := D) (ci := 3) (v := .int (nI k)) (C := R_Num) (T := F_Num) (N := 8) hx hb hts w_Num hown hK hP 0 rfl rfl 1 (by decide) (hts _ kF_Num_27) (fun _ h9 => h9) rfl d_Num_findPower_163 ?_
                    refine lv_iconst (v := 1) hx hb d_Num_findPower_166 (by decide) ?_
                    refine lv_iadd hx hb d_Num_findPower_167 ?_
                    refine tv_i (nI (k + 1)) (nI_1 k) ?_
                    refine va_put (D := D) (ci := 3) (v := .int (nI (k + 1))) (ty := .int) (C := R_Num) (T := F_Num) (N := 8) hx hb hts w_Num t_Num tk_Num n_Num hown hK hP hD hS 0 rfl rfl 1 (by decide) (hts _ kF_Num_27) (fun _ h9 => h9) rfl (by decide +kernel) (rfl) (rfl) (Nat.le_of_ble_eq_true rfl) d_Num_findPower_168 (fun H locs hP hD hS => ?_)
                    have hP : va_P D vcl [(nm, .inr (3, [.ref x, .int (nI (k + 1)), .int (nI e), .int mi, .int (nI (if hex then 4 else 3)), .int fr, .int to, .int (zI ((min (xv T (pS T e a) ((k + 1) - pS T e a)) 1000000 : Nat) : Int))])), (x, .inl (cC, 2400, .inl (tx T)))] H := hP
                    have hD : va_D A [(nm, .inr (3, [.ref x, .int (nI (k + 1)), .int (nI e), .int mi, .int (nI (if hex then 4 else 3)), .int fr, .int to, .int (zI ((min (xv T (pS T e a) ((k + 1) - pS T e a)) 1000000 : Nat) : Int))])), (x, .inl (cC, 2400, .inl (tx T)))] := hD
                    refine lv_goto (tgt := 104) hx hb d_Num_findPower_171 (by decide) ?_
                    exact ih (k + 1) (by omega) (by omega) (by omega) (by rw [← sk_t e112 e129]; exact hv) _ _ _ (hP.sub [0, 1] rfl) (hD.sub [0, 1] (by decide) rfl) hS (lv_sub hl [0, 1, 2] rfl)
            exact L104 (e - pS T e a + 1) (pS T e a) (by omega) (Nat.le_refl _) (hps.1) (rfl) _ _ _ (hP.sub [0, 1] rfl) (hD.sub [0, 1] (by decide) rfl) hS (lv_sub hl [3, 1, 0] rfl)
          · have e86 : lk T e (a + 1) = 43 := (nI_eq (b := 43) (by omega) (by decide)).mp c86
            refine lv_aload_n hx hb d_Num_findPower_89 rfl (lv_at hl 2 rfl) ?_
            refine lv_dup hx hb d_Num_findPower_90 rfl ?_
            refine va_get (D := D) (ci := 3) (v := .int (nI (a + 1))) (C := R_Num) (T := F_Num) (N := 8) hx hb hts w_Num hown hK hP 0 rfl rfl 1 (by decide) (hts _ kF_Num_27) (fun _ h9 => h9) rfl d_Num_findPower_91 ?_
            refine lv_iconst (v := 1) hx hb d_Num_findPower_94 (by decide) ?_
            refine lv_iadd hx hb d_Num_findPower_95 ?_
            refine tv_i (nI (pS T e a)) (by rw [show pS T e a = a + 2 by unfold pS; rw [if_pos (Or.inr e86)]]; exact nI_1 (a + 1)) ?_
            refine va_put (D := D) (ci := 3) (v := .int (nI (pS T e a))) (ty := .int) (C := R_Num) (T := F_Num) (N := 8) hx hb hts w_Num t_Num tk_Num n_Num hown hK hP hD hS 0 rfl rfl 1 (by decide) (hts _ kF_Num_27) (fun _ h9 => h9) rfl (by decide +kernel) (rfl) (rfl) (Nat.le_of_ble_eq_true rfl) d_Num_findPower_96 (fun H locs hP hD hS => ?_)
            have hP : va_P D vcl [(nm, .inr (3, [.ref x, .int (nI (pS T e a)), .int (nI e), .int mi, .int (nI (if hex then 4 else 3)), .int fr, .int to, .int (zI 0)])), (x, .inl (cC, 2400, .inl (tx T)))] H := hP
            have hD : va_D A [(nm, .inr (3, [.ref x, .int (nI (pS T e a)), .int (nI e), .int mi, .int (nI (if hex then 4 else 3)), .int fr, .int to, .int (zI 0)])), (x, .inl (cC, 2400, .inl (tx T)))] := hD
            rw [show zI 0 = zI ((min (xv T (pS T e a) (pS T e a - pS T e a)) 1000000 : Nat) : Int) from by rw [Nat.sub_self]; rfl] at hP hD
            refine lv_aload_n hx hb d_Num_findPower_99 rfl (lv_at hl 2 rfl) ?_
            refine va_get (D := D) (ci := 3) (v := .int (nI (pS T e a))) (C := R_Num) (T := F_Num) (N := 8) hx hb hts w_Num hown hK hP 0 rfl rfl 1 (by decide) (hts _ kF_Num_27) (fun _ h9 => h9) rfl d_Num_findPower_100 ?_
            refine lv_istore_n (lv' := [(3, .int (nI (pS T e a))), (2, .int (bI (ngB T e a))), (1, .int (bI (mkB hex T e a))), (0, .ref nm)]) hx hb d_Num_findPower_103 rfl hl (by decide) rfl (fun ls hl => ?_)
            have L104 : ∀ (kk : Nat) (k : Nat), e - k < kk → (pS T e a ≤ k) → (k ≤ e) → (sk 10 T e k = sk 10 T e (pS T e a)) → ∀ (H : Heap) (locs : List Loc) (ls : Array Slot), va_P D vcl [(nm, .inr (3, [.ref x, .int (nI k), .int (nI e), .int mi, .int (nI (if hex then 4 else 3)), .int fr, .int to, .int (zI ((min (xv T (pS T e a) (k - pS T e a)) 1000000 : Nat) : Int))])), (x, .inl (cC, 2400, .inl (tx T)))] H → va_D A [(nm, .inr (3, [.ref x, .int (nI k), .int (nI e), .int mi, .int (nI (if hex then 4 else 3)), .int fr, .int to, .int (zI ((min (xv T (pS T e a) (k - pS T e a)) 1000000 : Nat) : Int))])), (x, .inl (cC, 2400, .inl (tx T)))] → va_S A s.heap H locs → lv_has ls 4 [(0, .ref nm), (2, .int (bI (ngB T e a))), (3, .int (nI (pS T e a)))] → W p l ee ({ frames := 2, cells := 0, slots := 0, locals := 42 }) s m ([.ref nm] : List Value).toArray below meth cde H locs 0 0 (MQ below (va_Qi (S := Unit) (fun (r : Int32) (_ : Unit) => r = bI (pOk hex T e a)) (fun u tS => ctB D vcl ((fun _ => [(cC, .char)]) u) ((fun _ : Unit => [(nm, .inr (3, [.ref x, .int (nI (pAt hex T e a)), .int (nI e), .int mi, .int (nI (if hex then 4 else 3)), .int fr, .int to, .int (zI (pPw 1000000 hex T e a))])), (x, .inl (cC, 2400, .inl (tx T)))]) u) A tS) A) ([.ref nm] : List Value).toArray s 0 0 A) (F0 m 104 ls []) := by
              intro kk
              induction kk with
              | zero => intro k hmz; exact absurd hmz (Nat.not_lt_zero _)
              | succ kk ih =>
                intro k hmz hk1 hke hv H locs ls hP hD hS hl
                refine lv_aload_n hx hb d_Num_findPower_104 rfl (lv_at hl 0 rfl) ?_
                refine va_get (D := D) (ci := 3) (v := .int (nI k)) (C := R_Num) (T := F_Num) (N := 8) hx hb hts w_Num hown hK hP 0 rfl rfl 1 (by decide) (hts _ kF_Num_27) (fun _ h9 => h9) rfl d_Num_findPower_105 ?_
                refine lv_aload_n hx hb d_Num_findPower_108 rfl (lv_at hl 0 rfl) ?_
                refine va_get (D := D) (ci := 3) (v := .int (nI e)) (C := R_Num) (T := F_Num) (N := 8) hx hb hts w_Num hown hK hP 0 rfl rfl 2 (by decide) (hts _ kF_Num_52) (fun _ h9 => h9) rfl d_Num_findPower_109 ?_
                refine lv_icmp_ge (tgt := 174) hx hb d_Num_findPower_112 (by decide) (fun c112 => ?_) (fun c112 => ?_)
                · have e112 : e ≤ k := (nI_leI (by omega) (by omega)).mp c112
                  have hkx : k = pX T e a := by unfold pX; rw [← hv]; exact (sk_f (fun z => absurd z.1 (by omega))).symm
                  rw [hkx] at hP hD
                  have hP : va_P D vcl [(nm, .inr (3, [.ref x, .int (nI (pX T e a)), .int (nI e), .int mi, .int (nI (if hex then 4 else 3)), .int fr, .int to, .int (zI ((min (pE T e a) 1000000 : Nat) : Int))])), (x, .inl (cC, 2400, .inl (tx T)))] H := hP
                  have hD : va_D A [(nm, .inr (3, [.ref x, .int (nI (pX T e a)), .int (nI e), .int mi, .int (nI (if hex then 4 else 3)), .int fr, .int to, .int (zI ((min (pE T e a) 1000000 : Nat) : Int))])), (x, .inl (cC, 2400, .inl (tx T)))] := hD
                  refine lv_iload_n hx hb d_Num_findPower_174 rfl (lv_at hl 1 rfl) ?_
                  refine lv_if_eq (tgt := 187) hx hb d_Num_findPower_175 (by decide) (fun c175 => ?_) (fun c175 => ?_)
                  · have e175 : ngB T e a = false := (bI_0 _).mp c175
                    refine lv_aload_n hx hb d_Num_findPower_187 rfl (lv_at hl 0 rfl) ?_
                    refine va_get (D := D) (ci := 3) (v := .int (nI (pX T e a))) (C := R_Num) (T := F_Num) (N := 8) hx hb hts w_Num hown hK hP 0 rfl rfl 1 (by decide) (hts _ kF_Num_27) (fun _ h9 => h9) rfl d_Num_findPower_188 ?_
                    refine lv_iload_n hx hb d_Num_findPower_191 rfl (lv_at hl 2 rfl) ?_
                    refine lv_icmp_le (tgt := 199) hx hb d_Num_findPower_192 (by decide) (fun c192 => ?_) (fun c192 => ?_)
                    · have e192 : pX T e a ≤ pS T e a := (nI_leI (by omega) (by omega)).mp c192
                      refine lv_iconst (v := 0) hx hb d_Num_findPower_199 (by decide) ?_
                      rw [show nI (pX T e a) = nI (pAt hex T e a) by unfold pAt; rw [e34]; rfl, show zI ((min (pE T e a) 1000000 : Nat) : Int) = zI (pPw 1000000 hex T e a) by unfold pPw; rw [e34, e175]; rfl] at hP hD
                      exact rt_i hx hb hrt hlocks (rfl) (()) (by unfold pOk; rw [e34]; show 0 = bI (decide (pS T e a < pX T e a)); rw [decide_eq_false (by omega)]; rfl) (hP.sub [0, 1] rfl) (hK.sub [0] rfl) (hD.sub [0, 1] (by decide) rfl) hS d_Num_findPower_200
                    · have e192 : ¬ pX T e a ≤ pS T e a := fun z => c192 ((nI_leI (by omega) (by omega)).mpr z)
                      refine lv_iconst (v := 1) hx hb d_Num_findPower_195 (by decide) ?_
                      refine lv_goto (tgt := 200) hx hb d_Num_findPower_196 (by decide) ?_
                      rw [show nI (pX T e a) = nI (pAt hex T e a) by unfold pAt; rw [e34]; rfl, show zI ((min (pE T e a) 1000000 : Nat) : Int) = zI (pPw 1000000 hex T e a) by unfold pPw; rw [e34, e175]; rfl] at hP hD
                      exact rt_i hx hb hrt hlocks (rfl) (()) (by unfold pOk; rw [e34]; show 1 = bI (decide (pS T e a < pX T e a)); rw [decide_eq_true (by omega)]; rfl) (hP.sub [0, 1] rfl) (hK.sub [0] rfl) (hD.sub [0, 1] (by decide) rfl) hS d_Num_findPower_200
                  · have e175 : ngB T e a = true := tt_of (fun z => c175 ((bI_0 _).mpr z))
                    refine lv_aload_n hx hb d_Num_findPower_178 rfl (lv_at hl 0 rfl) ?_
                    refine lv_aload_n hx hb d_Num_findPower_179 rfl (lv_at hl 0 rfl) ?_
                    refine va_get (D := D) (ci := 3) (v := .int (zI ((min (pE T e a) 1000000 : Nat) : Int))) (C := R_Num) (T := F_Num) (N := 8) hx hb hts w_Num hown hK hP 0 rfl rfl 7 (by decide) (hts _ kF_Num_93) (fun _ h9 => h9) rfl d_Num_findPower_180 ?_
                    refine lv_ineg hx hb d_Num_findPower_183 ?_
                    refine tv_i (zI (-((min (pE T e a) 1000000 : Nat) : Int))) (zI_neg _) ?_
                    refine va_put (D := D) (ci := 3) (v := .int (zI (-((min (pE T e a) 1000000 : Nat) : Int)))) (ty := .int) (C := R_Num) (T := F_Num) (N := 8) hx hb hts w_Num t_Num tk_Num n_Num hown hK hP hD hS 0 rfl rfl 7 (by decide) (hts _ kF_Num_93) (fun _ h9 => h9) rfl (by decide +kernel) (rfl) (rfl) (Nat.le_of_ble_eq_true rfl) d_Num_findPower_184 (fun H locs hP hD hS => ?_)
                    have hP : va_P D vcl [(nm, .inr (3, [.ref x, .int (nI (pX T e a)), .int (nI e), .int mi, .int (nI (if hex then 4 else 3)), .int fr, .int to, .int (zI (-((min (pE T e a) 1000000 : Nat) : Int)))])), (x, .inl (cC, 2400, .inl (tx T)))] H := hP
                    have hD : va_D A [(nm, .inr (3, [.ref x, .int (nI (pX T e a)), .int (nI e), .int mi, .int (nI (if hex then 4 else 3)), .int fr, .int to, .int (zI (-((min (pE T e a) 1000000 : Nat) : Int)))])), (x, .inl (cC, 2400, .inl (tx T)))] := hD
                    refine lv_aload_n hx hb d_Num_findPower_187 rfl (lv_at hl 0 rfl) ?_
                    refine va_get (D := D) (ci := 3) (v := .int (nI (pX T e a))) (C := R_Num) (T := F_Num) (N := 8) hx hb hts w_Num hown hK hP 0 rfl rfl 1 (by decide) (hts _ kF_Num_27) (fun _ h9 => h9) rfl d_Num_findPower_188 ?_
                    refine lv_iload_n hx hb d_Num_findPower_191 rfl (lv_at hl 2 rfl) ?_
                    refine lv_icmp_le (tgt := 199) hx hb d_Num_findPower_192 (by decide) (fun c192 => ?_) (fun c192 => ?_)
                    · have e192 : pX T e a ≤ pS T e a := (nI_leI (by omega) (by omega)).mp c192
                      refine lv_iconst (v := 0) hx hb d_Num_findPower_199 (by decide) ?_
                      rw [show nI (pX T e a) = nI (pAt hex T e a) by unfold pAt; rw [e34]; rfl, show zI (-((min (pE T e a) 1000000 : Nat) : Int)) = zI (pPw 1000000 hex T e a) by unfold pPw; rw [e34, e175]; rfl] at hP hD
                      exact rt_i hx hb hrt hlocks (rfl) (()) (by unfold pOk; rw [e34]; show 0 = bI (decide (pS T e a < pX T e a)); rw [decide_eq_false (by omega)]; rfl) (hP.sub [0, 1] rfl) (hK.sub [0] rfl) (hD.sub [0, 1] (by decide) rfl) hS d_Num_findPower_200
                    · have e192 : ¬ pX T e a ≤ pS T e a := fun z => c192 ((nI_leI (by omega) (by omega)).mpr z)
                      refine lv_iconst (v := 1) hx hb d_Num_findPower_195 (by decide) ?_
                      refine lv_goto (tgt := 200) hx hb d_Num_findPower_196 (by decide) ?_
                      rw [show nI (pX T e a) = nI (pAt hex T e a) by unfold pAt; rw [e34]; rfl, show zI (-((min (pE T e a) 1000000 : Nat) : Int)) = zI (pPw 1000000 hex T e a) by unfold pPw; rw [e34, e175]; rfl] at hP hD
                      exact rt_i hx hb hrt hlocks (rfl) (()) (by unfold pOk; rw [e34]; show 1 = bI (decide (pS T e a < pX T e a)); rw [decide_eq_true (by omega)]; rfl) (hP.sub [0, 1] rfl) (hK.sub [0] rfl) (hD.sub [0, 1] (by decide) rfl) hS d_Num_findPower_200
                · have e112 : k < e := Nat.lt_of_not_le (fun z => c112 ((nI_leI (by omega) (by omega)).mpr z))
                  refine lv_aload_n hx hb d_Num_findPower_115 rfl (lv_at hl 0 rfl) ?_
                  refine va_get (D := D) (ci := 3) (v := .ref x) (C := R_Num) (T := F_Num) (N := 8) hx hb hts w_Num hown hK hP 0 rfl rfl 0 (by decide) (hts _ kF_Num_9) (fun _ h9 => h9) rfl d_Num_findPower_116 ?_
                  refine lv_aload_n hx hb d_Num_findPower_119 rfl (lv_at hl 0 rfl) ?_
                  refine va_get (D := D) (ci := 3) (v := .int (nI k)) (C := R_Num) (T := F_Num) (N := 8) hx hb hts w_Num hown hK hP 0 rfl rfl 1 (by decide) (hts _ kF_Num_27) (fun _ h9 => h9) rfl d_Num_findPower_120 ?_
                  refine va_cald hx hb hK hP 1 0 rfl rfl (i := nI k) (vp_in_nI (show k < 2400 by omega) (by decide)) d_Num_findPower_123 ?_
                  refine tv_i (nI (T (k))) (by rw [nI_clamp (by omega)]; rfl) ?_
                  refine ca_i [(nm, .inr (3, [.ref x, .int (nI k), .int (nI e), .int mi, .int (nI (if hex then 4 else 3)), .int fr, .int to, .int (zI ((min (xv T (pS T e a) (k - pS T e a)) 1000000 : Nat) : Int))])), (x, .inl (cC, 2400, .inl (tx T)))] (va_runSN (As := [.int (nI (T (k)))]) (rest := []) ⟨hx, hb, hml, hown, hts⟩ (c_Rea_digitOf l D E (T (k)) (by have := hT k; omega) H.size) (xSN 1 hts kC_Rea_digitOf hE.1.1 kT_Rea_digitOf kN_Rea rfl rfl (by decide +kernel) ⟨Nat.le_of_ble_eq_true rfl, Nat.le_of_ble_eq_true rfl⟩) ⟨ct_blind hev, ct_pre hev hP hK hD hS hA hE [] rfl (by decide) [] rfl⟩ rfl rfl hl.1 rfl (lv_room (Nat.le_of_ble_eq_true rfl)) d_Num_findPower_124 ⟨Nat.le_of_ble_eq_true rfl, Nat.le_of_ble_eq_true rfl⟩) hP hD hS hA [] [0, 1] rfl rfl (by decide) (by decide) (fun rv u H locs hw hP hD hS hK1 => ?_)
                  subst hw
                  have hP : va_P D vcl [(nm, .inr (3, [.ref x, .int (nI k), .int (nI e), .int mi, .int (nI (if hex then 4 else 3)), .int fr, .int to, .int (zI ((min (xv T (pS T e a) (k - pS T e a)) 1000000 : Nat) : Int))])), (x, .inl (cC, 2400, .inl (tx T)))] H := hP
                  have hD : va_D A [(nm, .inr (3, [.ref x, .int (nI k), .int (nI e), .int mi, .int (nI (if hex then 4 else 3)), .int fr, .int to, .int (zI ((min (xv T (pS T e a) (k - pS T e a)) 1000000 : Nat) : Int))])), (x, .inl (cC, 2400, .inl (tx T)))] := hD
                  refine lv_bipush (v := 10) hx hb d_Num_findPower_127 (by decide) ?_
                  refine lv_icmp_ge (tgt := 174) hx hb d_Num_findPower_129 (by decide) (fun c129 => ?_) (fun c129 => ?_)
                  · have e129 : 10 ≤ dg (T k) := (nI_leI (a := 10) (by decide) (by have := dg_le (T k); omega)).mp c129
                    have hkx : k = pX T e a := by unfold pX; rw [← hv]; exact (sk_f (fun z => absurd z.2 (by omega))).symm
                    rw [hkx] at hP hD
                    have hP : va_P D vcl [(nm, .inr (3, [.ref x, .int (nI (pX T e a)), .int (nI e), .int mi, .int (nI (if hex then 4 else 3)), .int fr, .int to, .int (zI ((min (pE T e a) 1000000 : Nat) : Int))])), (x, .inl (cC, 2400, .inl (tx T)))] H := hP
                    have hD : va_D A [(nm, .inr (3, [.ref x, .int (nI (pX T e a)), .int (nI e), .int mi, .int (nI (if hex then 4 else 3)), .int fr, .int to, .int (zI ((min (pE T e a) 1000000 : Nat) : Int))])), (x, .inl (cC, 2400, .inl (tx T)))] := hD
                    refine lv_iload_n hx hb d_Num_findPower_174 rfl (lv_at hl 1 rfl) ?_
                    refine lv_if_eq (tgt := 187) hx hb d_Num_findPower_175 (by decide) (fun c175 => ?_) (fun c175 => ?_)
                    · have e175 : ngB T e a = false := (bI_0 _).mp c175
                      refine lv_aload_n hx hb d_Num_findPower_187 rfl (lv_at hl 0 rfl) ?_
                      refine va_get (D := D) (ci := 3) (v := .int (nI (pX T e a))) (C := R_Num) (T := F_Num) (N := 8) hx hb hts w_Num hown hK hP 0 rfl rfl 1 (by decide) (hts _ kF_Num_27) (fun _ h9 => h9) rfl d_Num_findPower_188 ?_
                      refine lv_iload_n hx hb d_Num_findPower_191 rfl (lv_at hl 2 rfl) ?_
                      refine lv_icmp_le (tgt := 199) hx hb d_Num_findPower_192 (by decide) (fun c192 => ?_) (fun c192 => ?_)
                      · have e192 : pX T e a ≤ pS T e a := (nI_leI (by omega) (by omega)).mp c192
                        refine lv_iconst (v := 0) hx hb d_Num_findPower_199 (by decide) ?_
                        rw [show nI (pX T e a) = nI (pAt hex T e a) by unfold pAt; rw [e34]; rfl, show zI ((min (pE T e a) 1000000 : Nat) : Int) = zI (pPw 1000000 hex T e a) by unfold pPw; rw [e34, e175]; rfl] at hP hD
                        exact rt_i hx hb hrt hlocks (rfl) (()) (by unfold pOk; rw [e34]; show 0 = bI (decide (pS T e a < pX T e a)); rw [decide_eq_false (by omega)]; rfl) (hP.sub [0, 1] rfl) (hK.sub [0] rfl) (hD.sub [0, 1] (by decide) rfl) hS d_Num_findPower_200
                      · have e192 : ¬ pX T e a ≤ pS T e a := fun z => c192 ((nI_leI (by omega) (by omega)).mpr z)
                        refine lv_iconst (v := 1) hx hb d_Num_findPower_195 (by decide) ?_
                        refine lv_goto (tgt := 200) hx hb d_Num_findPower_196 (by decide) ?_
                        rw [show nI (pX T e a) = nI (pAt hex T e a) by unfold pAt; rw [e34]; rfl, show zI ((min (pE T e a) 1000000 : Nat) : Int) = zI (pPw 1000000 hex T e a) by unfold pPw; rw [e34, e175]; rfl] at hP hD
                        exact rt_i hx hb hrt hlocks (rfl) (()) (by unfold pOk; rw [e34]; show 1 = bI (decide (pS T e a < pX T e a)); rw [decide_eq_true (by omega)]; rfl) (hP.sub [0, 1] rfl) (hK.sub [0] rfl) (hD.sub [0, 1] (by decide) rfl) hS d_Num_findPower_200
                    · have e175 : ngB T e a = true := tt_of (fun z => c175 ((bI_0 _).mpr z))
                      refine lv_aload_n hx hb d_Num_findPower_178 rfl (lv_at hl 0 rfl) ?_
                      refine lv_aload_n hx hb d_Num_findPower_179 rfl (lv_at hl 0 rfl) ?_
                      refine va_get (D := D) (ci := 3) (v := .int (zI ((min (pE T e a) 1000000 : Nat) : Int))) (C := R_Num) (T := F_Num) (N := 8) hx hb hts w_Num hown hK hP 0 rfl rfl 7 (by decide) (hts _ kF_Num_93) (fun _ h9 => h9) rfl d_Num_findPower_180 ?_
                      refine lv_ineg hx hb d_Num_findPower_183 ?_
                      refine tv_i (zI (-((min (pE T e a) 1000000 : Nat) : Int))) (zI_neg _) ?_
                      refine va_put (D := D) (ci := 3) (v := .int (zI (-((min (pE T e a) 1000000 : Nat) : Int)))) (ty := .int) (C := R_Num) (T := F_Num) (N := 8) hx hb hts w_Num t_Num tk_Num n_Num hown hK hP hD hS 0 rfl rfl 7 (by decide) (hts _ kF_Num_93) (fun _ h9 => h9) rfl (by decide +kernel) (rfl) (rfl) (Nat.le_of_ble_eq_true rfl) d_Num_findPower_184 (fun H locs hP hD hS => ?_)
                      have hP : va_P D vcl [(nm, .inr (3, [.ref x, .int (nI (pX T e a)), .int (nI e), .int mi, .int (nI (if hex then 4 else 3)), .int fr, .int to, .int (zI (-((min (pE T e a) 1000000 : Nat) : Int)))])), (x, .inl (cC, 2400, .inl (tx T)))] H := hP
                      have hD : va_D A [(nm, .inr (3, [.ref x, .int (nI (pX T e a)), .int (nI e), .int mi, .int (nI (if hex then 4 else 3)), .int fr, .int to, .int (zI (-((min (pE T e a) 1000000 : Nat) : Int)))])), (x, .inl (cC, 2400, .inl (tx T)))] := hD
                      refine lv_aload_n hx hb d_Num_findPower_187 rfl (lv_at hl 0 rfl) ?_
                      refine va_get (D := D) (ci := 3) (v := .int (nI (pX T e a))) (C := R_Num) (T := F_Num) (N := 8) hx hb hts w_Num hown hK hP 0 rfl rfl 1 (by decide) (hts _ kF_Num_27) (fun _ h9 => h9) rfl d_Num_findPower_188 ?_
                      refine lv_iload_n hx hb d_Num_findPower_191 rfl (lv_at hl 2 rfl) ?_
                      refine lv_icmp_le (tgt := 199) hx hb d_Num_findPower_192 (by decide) (fun c192 => ?_) (fun c192 => ?_)
                      · have e192 : pX T e a ≤ pS T e a := (nI_leI (by omega) (by omega)).mp c192
                        refine lv_iconst (v := 0) hx hb d_Num_findPower_199 (by decide) ?_
                        rw [show nI (pX T e a) = nI (pAt hex T e a) by unfold pAt; rw [e34]; rfl, show zI (-((min (pE T e a) 1000000 : Nat) : Int)) = zI (pPw 1000000 hex T e a) by unfold pPw; rw [e34, e175]; rfl] at hP hD
                        exact rt_i hx hb hrt hlocks (rfl) (()) (by unfold pOk; rw [e34]; show 0 = bI (decide (pS T e a < pX T e a)); rw [decide_eq_false (by omega)]; rfl) (hP.sub [0, 1] rfl) (hK.sub [0] rfl) (hD.sub [0, 1] (by decide) rfl) hS d_Num_findPower_200
                      · have e192 : ¬ pX T e a ≤ pS T e a := fun z => c192 ((nI_leI (by omega) (by omega)).mpr z)
                        refine lv_iconst (v := 1) hx hb d_Num_findPower_195 (by decide) ?_
                        refine lv_goto (tgt := 200) hx hb d_Num_findPower_196 (by decide) ?_
                        rw [show nI (pX T e a) = nI (pAt hex T e a) by unfold pAt; rw [e34]; rfl, show zI (-((min (pE T e a) 1000000 : Nat) : Int)) = zI (pPw 1000000 hex T e a) by unfold pPw; rw [e34, e175]; rfl] at hP hD
                        exact rt_i hx hb hrt hlocks (rfl) (()) (by unfold pOk; rw [e34]; show 1 = bI (decide (pS T e a < pX T e a)); rw [decide_eq_true (by omega)]; rfl) (hP.sub [0, 1] rfl) (hK.sub [0] rfl) (hD.sub [0, 1] (by decide) rfl) hS d_Num_findPower_200
                  · have e129 : dg (T k) < 10 := Nat.lt_of_not_le (fun z => c129 ((nI_leI (a := 10) (by decide) (by have := dg_le (T k); omega)).mpr z))
                    refine lv_aload_n hx hb d_Num_findPower_132 rfl (lv_at hl 0 rfl) ?_
                    refine lv_aload_n hx hb d_Num_findPower_133 rfl (lv_at hl 0 rfl) ?_
                    refine va_get (D := D) (ci := 3) (v := .int (zI ((min (xv T (pS T e a) (k - pS T e a)) 1000000 : Nat) : Int))) (C := R_Num) (T := F_Num) (N := 8) hx hb hts w_Num hown hK hP 0 rfl rfl 7 (by decide) (hts _ kF_Num_93) (fun _ h9 => h9) rfl d_Num_findPower_134 ?_
                    refine lv_bipush (v := 10) hx hb d_Num_findPower_137 (by decide) ?_
                    refine lv_imul hx hb d_Num_findPower_139 ?_
                    refine lv_aload_n hx hb d_Num_findPower_140 rfl (lv_at hl 0 rfl) ?_
                    refine va_get (D := D) (ci := 3) (v := .ref x) (C := R_Num) (T := F_Num) (N := 8) hx hb hts w_Num hown hK hP 0 rfl rfl 0 (by decide) (hts _ kF_Num_9) (fun _ h9 => h9) rfl d_Num_findPower_141 ?_
                    refine lv_aload_n hx hb d_Num_findPower_144 rfl (lv_at hl 0 rfl) ?_
                    refine va_get (D := D) (ci := 3) (v := .int (nI k)) (C := R_Num) (T := F_Num) (N := 8) hx hb hts w_Num hown hK hP 0 rfl rfl 1 (by decide) (hts _ kF_Num_27) (fun _ h9 => h9) rfl d_Num_findPower_145 ?_
                    refine va_cald hx hb hK hP 1 0 rfl rfl (i := nI k) (vp_in_nI (show k < 2400 by omega) (by decide)) d_Num_findPower_148 ?_
                    refine tv_i (nI (T (k))) (by rw [nI_clamp (by omega)]; rfl) ?_
                    refine ca_i [(nm, .inr (3, [.ref x, .int (nI k), .int (nI e), .int mi, .int (nI (if hex then 4 else 3)), .int fr, .int to, .int (zI ((min (xv T (pS T e a) (k - pS T e a)) 1000000 : Nat) : Int))])), (x, .inl (cC, 2400, .inl (tx T)))] (va_runSN (As := [.int (nI (T (k)))]) (rest := [.int ((zI ((min (xv T (pS T e a) (k - pS T e a)) 1000000 : Nat) : Int)) * 10), .ref nm]) ⟨hx, hb, hml, hown, hts⟩ (c_Rea_digitOf l D E (T (k)) (by have := hT k; omega) H.size) (xSN 1 hts kC_Rea_digitOf hE.1.1 kT_Rea_digitOf kN_Rea rfl rfl (by decide +kernel) ⟨Nat.le_of_ble_eq_true rfl, Nat.le_of_ble_eq_true rfl⟩) ⟨ct_blind hev, ct_pre hev hP hK hD hS hA hE [] rfl (by decide) [] rfl⟩ rfl rfl hl.1 rfl (lv_room (Nat.le_of_ble_eq_true rfl)) d_Num_findPower_149 ⟨Nat.le_of_ble_eq_true rfl, Nat.le_of_ble_eq_true rfl⟩) hP hD hS hA [] [0, 1] rfl rfl (by decide) (by decide) (fun rv u H locs hw hP hD hS hK1 => ?_)
                    subst hw
                    have hP : va_P D vcl [(nm, .inr (3, [.ref x, .int (nI k), .int (nI e), .int mi, .int (nI (if hex then 4 else 3)), .int fr, .int to, .int (zI ((min (xv T (pS T e a) (k - pS T e a)) 1000000 : Nat) : Int))])), (x, .inl (cC, 2400, .inl (tx T)))] H := hP
                    have hD : va_D A [(nm, .inr (3, [.ref x, .int (nI k), .int (nI e), .int mi, .int (nI (if hex then 4 else 3)), .int fr, .int to, .int (zI ((min (xv T (pS T e a) (k - pS T e a)) 1000000 : Nat) : Int))])), (x, .inl (cC, 2400, .inl (tx T)))] := hD
                    refine lv_iadd hx hb d_Num_findPower_152 ?_
                    refine tv_i (zI ((min (xv T (pS T e a) (k - pS T e a)) 1000000 * 10 + dg (T k) : Nat) : Int)) (by show zI _ * zI 10 + nI _ = _; rw [zI_mul, ← zI_nI, zI_add]; exact congrArg zI (by omega)) ?_
                    refine lv_ldc hx hb hown (hts _ kK_Num_96) d_Num_findPower_153 ?_
                    refine va_mmin hx hb (by rw [hml]; exact hl.1.symm) hown (hts _ kM_Num_46) (hts _ kT_mmin) (hts _ kN_Math) (hts _ kC_mmin) (Nat.le_of_ble_eq_true rfl) (Nat.le_of_ble_eq_true rfl) (Nat.le_of_ble_eq_true rfl) (Nat.le_of_ble_eq_true rfl) d_Num_findPower_155 ?_
                    refine tv_i (zI ((min (xv T (pS T e a) ((k + 1) - pS T e a)) 1000000 : Nat) : Int)) (pw_min hk1) ?_
                    refine va_put (D := D) (ci := 3) (v := .int (zI ((min (xv T (pS T e a) ((k + 1) - pS T e a)) 1000000 : Nat) : Int))) (ty := .int) (C := R_Num) (T := F_Num) (N := 8) hx hb hts w_Num t_Num tk_Num n_Num hown hK hP hD hS 0 rfl rfl 7 (by decide) (hts _ kF_Num_93) (fun _ h9 => h9) rfl (by decide +kernel) (rfl) (rfl) (Nat.le_of_ble_eq_true rfl) d_Num_findPower_158 (fun H locs hP hD hS => ?_)
                    have hP : va_P D vcl [(nm, .inr (3, [.ref x, .int (nI k), .int (nI e), .int mi, .int (nI (if hex then 4 else 3)), .int fr, .int to, .int (zI ((min (xv T (pS T e a) ((k + 1) - pS T e a)) 1000000 : Nat) : Int))])), (x, .inl (cC, 2400, .inl (tx T)))] H := hP
                    have hD : va_D A [(nm, .inr (3, [.ref x, .int (nI k), .int (nI e), .int mi, .int (nI (if hex then 4 else 3)), .int fr, .int to, .int (zI ((min (xv T (pS T e a) ((k + 1) - pS T e a)) 1000000 : Nat) : Int))])), (x, .inl (cC, 2400, .inl (tx T)))] := hD
                    refine lv_aload_n hx hb d_Num_findPower_161 rfl (lv_at hl 0 rfl) ?_
                    refine lv_dup hx hb d_Num_findPower_162 rfl ?_
                    refine va_get (D := D) (ci := 3) (v := .int (nI k)) (C := R_Num) (T := F_Num) (N := 8) hx hb hts w_Num hown hK hP 0 rfl rfl 1 (by decide) (hts _ kF_Num_27) (fun _ h9 => h9) rfl d_Num_findPower_163 ?_
                    refine lv_iconst (v := 1) hx hb d_Num_findPower_166 (by decide) ?_
                    refine lv_iadd hx hb d_Num_findPower_167 ?_
                    refine tv_i (nI (k + 1)) (nI_1 k) ?_
                    refine va_put (D := D) (ci := 3) (v := .int (nI (k + 1))) (ty := .int) (C := R_Num) (T := F_Num) (N := 8) hx hb hts w_Num t_Num tk_Num n_Num hown hK hP hD hS 0 rfl rfl 1 (by decide) (hts _ kF_Num_27) (fun _ h9 => h9) rfl (by decide +kernel) (rfl) (rfl) (Nat.le_of_ble_eq_true rfl) d_Num_findPower_168 (fun H locs hP hD hS => ?_)
                    have hP : va_P D vcl [(nm, .inr (3, [.ref x, .int (nI (k + 1)), .int (nI e), .int mi, .int (nI (if hex then 4 else 3)), .int fr, .int to, .int (zI ((min (xv T (pS T e a) ((k + 1) - pS T e a)) 1000000 : Nat) : Int))])), (x, .inl (cC, 2400, .inl (tx T)))] H := hP
                    have hD : va_D A [(nm, .inr (3, [.ref x, .int (nI (k + 1)), .int (nI e), .int mi, .int (nI (if hex then 4 else 3)), .int fr, .int to, .int (zI ((min (xv T (pS T e a) ((k + 1) - pS T e a)) 1000000 : Nat) : Int))])), (x, .inl (cC, 2400, .inl (tx T)))] := hD
                    refine lv_goto (tgt := 104) hx hb d_Num_findPower_171 (by decide) ?_
                    exact ih (k + 1) (by omega) (by omega) (by omega) (by rw [← sk_t e112 e129]; exact hv) _ _ _ (hP.sub [0, 1] rfl) (hD.sub [0, 1] (by decide) rfl) hS (lv_sub hl [0, 1, 2] rfl)
            exact L104 (e - pS T e a + 1) (pS T e a) (by omega) (Nat.le_refl _) (hps.1) (rfl) _ _ _ (hP.sub [0, 1] rfl) (hD.sub [0, 1] (by decide) rfl) hS (lv_sub hl [3, 1, 0] rfl)
      · have e67 : lk T e (a + 1) = 45 := (nI_eq (b := 45) (by omega) (by decide)).mp c67
        refine lv_iconst (v := 1) hx hb d_Num_findPower_70 (by decide) ?_
        refine tv_i (bI (ngB T e a)) (by rw [show ngB T e a = true from decide_eq_true e67]; rfl) ?_
        refine lv_goto (tgt := 75) hx hb d_Num_findPower_71 (by decide) ?_
        refine lv_istore_n (lv' := [(2, .int (bI (ngB T e a))), (1, .int (bI (mkB hex T e a))), (0, .ref nm)]) hx hb d_Num_findPower_75 rfl hl (by decide) rfl (fun ls hl => ?_)
        refine lv_iload_n hx hb d_Num_findPower_76 rfl (lv_at hl 0 rfl) ?_
        refine lv_if_ne (tgt := 89) hx hb d_Num_findPower_77 (by decide) (fun c77 => ?_) (fun c77 => ?_)
        · refine lv_aload_n hx hb d_Num_findPower_89 rfl (lv_at hl 2 rfl) ?_
          refine lv_dup hx hb d_Num_findPower_90 rfl ?_
          refine va_get (D := D) (ci := 3) (v := .int (nI (a + 1))) (C := R_Num) (T := F_Num) (N := 8) hx hb hts w_Num hown hK hP 0 rfl rfl 1 (by decide) (hts _ kF_Num_27) (fun _ h9 => h9) rfl d_Num_findPower_91 ?_
          refine lv_iconst (v := 1) hx hb d_Num_findPower_94 (by decide) ?_
          refine lv_iadd hx hb d_Num_findPower_95 ?_
          refine tv_i (nI (pS T e a)) (by rw [show pS T e a = a + 2 by unfold pS; rw [if_pos (Or.inl e67)]]; exact nI_1 (a + 1)) ?_
          refine va_put (D := D) (ci := 3) (v := .int (nI (pS T e a))) (ty := .int) (C := R_Num) (T := F_Num) (N := 8) hx hb hts w_Num t_Num tk_Num n_Num hown hK hP hD hS 0 rfl rfl 1 (by decide) (hts _ kF_Num_27) (fun _ h9 => h9) rfl (by decide +kernel) (rfl) (rfl) (Nat.le_of_ble_eq_true rfl) d_Num_findPower_96 (fun H locs hP hD hS => ?_)
          have hP : va_P D vcl [(nm, .inr (3, [.ref x, .int (nI (pS T e a)), .int (nI e), .int mi, .int (nI (if hex then 4 else 3)), .int fr, .int to, .int (zI 0)])), (x, .inl (cC, 2400, .inl (tx T)))] H := hP
          have hD : va_D A [(nm, .inr (3, [.ref x, .int (nI (pS T e a)), .int (nI e), .int mi, .int (nI (if hex then 4 else 3)), .int fr, .int to, .int (zI 0)])), (x, .inl (cC, 2400, .inl (tx T)))] := hD
          rw [show zI 0 = zI ((min (xv T (pS T e a) (pS T e a - pS T e a)) 1000000 : Nat) : Int) from by rw [Nat.sub_self]; rfl] at hP hD
          refine lv_aload_n hx hb d_Num_findPower_99 rfl (lv_at hl 2 rfl) ?_
          refine va_get (D := D) (ci := 3) (v := .int (nI (pS T e a))) (C := R_Num) (T := F_Num) (N := 8) hx hb hts w_Num hown hK hP 0 rfl rfl 1 (by decide) (hts _ kF_Num_27) (fun _ h9 => h9) rfl d_Num_findPower_100 ?_
          refine lv_istore_n (lv' := [(3, .int (nI (pS T e a))), (2, .int (bI (ngB T e a))), (1, .int (bI (mkB hex T e a))), (0, .ref nm)]) hx hb d_Num_findPower_103 rfl hl (by decide) rfl (fun ls hl => ?_)
          have L104 : ∀ (kk : Nat) (k : Nat), e - k < kk → (pS T e a ≤ k) → (k ≤ e) → (sk 10 T e k = sk 10 T e (pS T e a)) → ∀ (H : Heap) (locs : List Loc) (ls : Array Slot), va_P D vcl [(nm, .inr (3, [.ref x, .int (nI k), .int (nI e), .int mi, .int (nI (if hex then 4 else 3)), .int fr, .int to, .int (zI ((min (xv T (pS T e a) (k - pS T e a)) 1000000 : Nat) : Int))])), (x, .inl (cC, 2400, .inl (tx T)))] H → va_D A [(nm, .inr (3, [.ref x, .int (nI k), .int (nI e), .int mi, .int (nI (if hex then 4 else 3)), .int fr, .int to, .int (zI ((min (xv T (pS T e a) (k - pS T e a)) 1000000 : Nat) : Int))])), (x, .inl (cC, 2400, .inl (tx T)))] → va_S A s.heap H locs → lv_has ls 4 [(0, .ref nm), (2, .int (bI (ngB T e a))), (3, .int (nI (pS T e a)))] → W p l ee ({ frames := 2, cells := 0, slots := 0, locals := 42 }) s m ([.ref nm] : List Value).toArray below meth cde H locs 0 0 (MQ below (va_Qi (S := Unit) (fun (r : Int32) (_ : Unit) => r = bI (pOk hex T e a)) (fun u tS => ctB D vcl ((fun _ => [(cC, .char)]) u) ((fun _ : Unit => [(nm, .inr (3, [.ref x, .int (nI (pAt hex T e a)), .int (nI e), .int mi, .int (nI (if hex then 4 else 3)), .int fr, .int to, .int (zI (pPw 1000000 hex T e a))])), (x, .inl (cC, 2400, .inl (tx T)))]) u) A tS) A) ([.ref nm] : List Value).toArray s 0 0 A) (F0 m 104 ls []) := by
            intro kk
            induction kk with
            | zero => intro k hmz; exact absurd hmz (Nat.not_lt_zero _)
            | succ kk ih =>
              intro k hmz hk1 hke hv H locs ls hP hD hS hl
              refine lv_aload_n hx hb d_Num_findPower_104 rfl (lv_at hl 0 rfl) ?_
              refine va_get (D := D) (ci := 3) (v := .int (nI k)) (C := R_Num) (T := F_Num) (N := 8) hx hb hts w_Num hown hK hP 0 rfl rfl 1 (by decide) (hts _ kF_Num_27) (fun _ h9 => h9) rfl d_Num_findPower_105 ?_
              refine lv_aload_n hx hb d_Num_findPower_108 rfl (lv_at hl 0 rfl) ?_
              refine va_get (D := D) (ci := 3) (v := .int (nI e)) (C := R_Num) (T := F_Num) (N := 8) hx hb hts w_Num hown hK hP 0 rfl rfl 2 (by decide) (hts _ kF_Num_52) (fun _ h9 => h9) rfl d_Num_findPower_109 ?_
              refine lv_icmp_ge (tgt := 174) hx hb d_Num_findPower_112 (by decide) (fun c112 => ?_) (fun c112 => ?_)
              · have e112 : e ≤ k := (nI_leI (by omega) (by omega)).mp c112
                have hkx : k = pX T e a := by unfold pX; rw [← hv]; exact (sk_f (fun z => absurd z.1 (by omega))).symm
                rw [hkx] at hP hD
                have hP : va_P D vcl [(nm, .inr (3, [.ref x, .int (nI (pX T e a)), .int (nI e), .int mi, .int (nI (if hex then 4 else 3)), .int fr, .int to, .int (zI ((min (pE T e a) 1000000 : Nat) : Int))])), (x, .inl (cC, 2400, .inl (tx T)))] H := hP
                have hD : va_D A [(nm, .inr (3, [.ref x, .int (nI (pX T e a)), .int (nI e), .int mi, .int (nI (if hex then 4 else 3)), .int fr, .int to, .int (zI ((min (pE T e a) 1000000 : Nat) : Int))])), (x, .inl (cC, 2400, .inl (tx T)))] := hD
                refine lv_iload_n hx hb d_Num_findPower_174 rfl (lv_at hl 1 rfl) ?_
                refine lv_if_eq (tgt := 187) hx hb d_Num_findPower_175 (by decide) (fun c175 => ?_) (fun c175 => ?_)
                · have e175 : ngB T e a = false := (bI_0 _).mp c175
                  refine lv_aload_n hx hb d_Num_findPower_187 rfl (lv_at hl 0 rfl) ?_
                  refine va_get (D := D) (ci := 3) (v := .int (nI (pX T e a))) (C := R_Num) (T := F_Num) (N := 8) hx hb hts w_Num hown hK hP 0 rfl rfl 1 (by decide) (hts _ kF_Num_27) (fun _ h9 => h9) rfl d_Num_findPower_188 ?_
                  refine lv_iload_n hx hb d_Num_findPower_191 rfl (lv_at hl 2 rfl) ?_
                  refine lv_icmp_le (tgt := 199) hx hb d_Num_findPower_192 (by decide) (fun c192 => ?_) (fun c192 => ?_)
                  · have e192 : pX T e a ≤ pS T e a := (nI_leI (by omega) (by omega)).mp c192
                    refine lv_iconst (v := 0) hx hb d_Num_findPower_199 (by decide) ?_
                    rw [show nI (pX T e a) = nI (pAt hex T e a) by unfold pAt; rw [e34]; rfl, show zI ((min (pE T e a) 1000000 : Nat) : Int) = zI (pPw 1000000 hex T e a) by unfold pPw; rw [e34, e175]; rfl] at hP hD
                    exact rt_i hx hb hrt hlocks (rfl) (()) (by unfold pOk; rw [e34]; show 0 = bI (decide (pS T e a < pX T e a)); rw [decide_eq_false (by omega)]; rfl) (hP.sub [0, 1] rfl) (hK.sub [0] rfl) (hD.sub [0, 1] (by decide) rfl) hS d_Num_findPower_200
                  · have e192 : ¬ pX T e a ≤ pS T e a := fun z => c192 ((nI_leI (by omega) (by omega)).mpr z)
                    refine lv_iconst (v := 1) hx hb d_Num_findPower_195 (by decide) ?_
                    refine lv_goto (tgt := 200) hx hb d_Num_findPower_196 (by decide) ?_
                    rw [show nI (pX T e a) = nI (pAt hex T e a) by unfold pAt; rw [e34]; rfl, show zI ((min (pE T e a) 1000000 : Nat) : Int) = zI (pPw 1000000 hex T e a) by unfold pPw; rw [e34, e175]; rfl] at hP hD
                    exact rt_i hx hb hrt hlocks (rfl) (()) (by unfold pOk; rw [e34]; show 1 = bI (decide (pS T e a < pX T e a)); rw [decide_eq_true (by omega)]; rfl) (hP.sub [0, 1] rfl) (hK.sub [0] rfl) (hD.sub [0, 1] (by decide) rfl) hS d_Num_findPower_200
                · have e175 : ngB T e a = true := tt_of (fun z => c175 ((bI_0 _).mpr z))
                  refine lv_aload_n hx hb d_Num_findPower_178 rfl (lv_at hl 0 rfl) ?_
                  refine lv_aload_n hx hb d_Num_findPower_179 rfl (lv_at hl 0 rfl) ?_
                  refine va_get (D := D) (ci := 3) (v := .int (zI ((min (pE T e a) 1000000 : Nat) : Int))) (C := R_Num) (T := F_Num) (N := 8) hx hb hts w_Num hown hK hP 0 rfl rfl 7 (by decide) (hts _ kF_Num_93) (fun _ h9 => h9) rfl d_Num_findPower_180 ?_
                  refine lv_ineg hx hb d_Num_findPower_183 ?_
                  refine tv_i (zI (-((min (pE T e a) 1000000 : Nat) : Int))) (zI_neg _) ?_
                  refine va_put (D := D) (ci := 3) (v := .int (zI (-((min (pE T e a) 1000000 : Nat) : Int)))) (ty := .int) (C := R_Num) (T := F_Num) (N := 8) hx hb hts w_Num t_Num tk_Num n_Num hown hK hP hD hS 0 rfl rfl 7 (by decide) (hts _ kF_Num_93) (fun _ h9 => h9) rfl (by decide +kernel) (rfl) (rfl) (Nat.le_of_ble_eq_true rfl) d_Num_findPower_184 (fun H locs hP hD hS => ?_)
                  have hP : va_P D vcl [(nm, .inr (3, [.ref x, .int (nI (pX T e a)), .int (nI e), .int mi, .int (nI (if hex then 4 else 3)), .int fr, .int to, .int (zI (-((min (pE T e a) 1000000 : Nat) : Int)))])), (x, .inl (cC, 2400, .inl (tx T)))] H := hP
                  have hD : va_D A [(nm, .inr (3, [.ref x, .int (nI (pX T e a)), .int (nI e), .int mi, .int (nI (if hex then 4 else 3)), .int fr, .int to, .int (zI (-((min (pE T e a) 1000000 : Nat) : Int)))])), (x, .inl (cC, 2400, .inl (tx T)))] := hD
                  refine lv_aload_n hx hb d_Num_findPower_187 rfl (lv_at hl 0 rfl) ?_
                  refine va_get (D := D) (ci := 3) (v := .int (nI (pX T e a))) (C := R_Num) (T := F_Num) (N := 8) hx hb hts w_Num hown hK hP 0 rfl rfl 1 (by decide) (hts _ kF_Num_27) (fun _ h9 => h9) rfl d_Num_findPower_188 ?_
                  refine lv_iload_n hx hb d_Num_findPower_191 rfl (lv_at hl 2 rfl) ?_
                  refine lv_icmp_le (tgt := 199) hx hb d_Num_findPower_192 (by decide) (fun c192 => ?_) (fun c192 => ?_)
                  · have e192 : pX T e a ≤ pS T e a := (nI_leI (by omega) (by omega)).mp c192
                    refine lv_iconst (v := 0) hx hb d_Num_findPower_199 (by decide) ?_
                    rw [show nI (pX T e a) = nI (pAt hex T e a) by unfold pAt; rw [e34]; rfl, show zI (-((min (pE T e a) 1000000 : Nat) : Int)) = zI (pPw 1000000 hex T e a) by unfold pPw; rw [e34, e175]; rfl] at hP hD
                    exact rt_i hx hb hrt hlocks (rfl) (()) (by unfold pOk; rw [e34]; show 0 = bI (decide (pS T e a < pX T e a)); rw [decide_eq_false (by omega)]; rfl) (hP.sub [0, 1] rfl) (hK.sub [0] rfl) (hD.sub [0, 1] (by decide) rfl) hS d_Num_findPower_200
                  · have e192 : ¬ pX T e a ≤ pS T e a := fun z => c192 ((nI_leI (by omega) (by omega)).mpr z)
                    refine lv_iconst (v := 1) hx hb d_Num_findPower_195 (by decide) ?_
                    refine lv_goto (tgt := 200) hx hb d_Num_findPower_196 (by decide) ?_
                    rw [show nI (pX T e a) = nI (pAt hex T e a) by unfold pAt; rw [e34]; rfl, show zI (-((min (pE T e a) 1000000 : Nat) : Int)) = zI (pPw 1000000 hex T e a) by unfold pPw; rw [e34, e175]; rfl] at hP hD
                    exact rt_i hx hb hrt hlocks (rfl) (()) (by unfold pOk; rw [e34]; show 1 = bI (decide (pS T e a < pX T e a)); rw [decide_eq_true (by omega)]; rfl) (hP.sub [0, 1] rfl) (hK.sub [0] rfl) (hD.sub [0, 1] (by decide) rfl) hS d_Num_findPower_200
              · have e112 : k < e := Nat.lt_of_not_le (fun z => c112 ((nI_leI (by omega) (by omega)).mpr z))
                refine lv_aload_n hx hb d_Num_findPower_115 rfl (lv_at hl 0 rfl) ?_
                refine va_get (D := D) (ci := 3) (v := .ref x) (C := R_Num) (T := F_Num) (N := 8) hx hb hts w_Num hown hK hP 0 rfl rfl 0 (by decide) (hts _ kF_Num_9) (fun _ h9 => h9) rfl d_Num_findPower_116 ?_
                refine lv_aload_n hx hb d_Num_findPower_119 rfl (lv_at hl 0 rfl) ?_
                refine va_get (D := D) (ci := 3) (v := .int (nI k)) (C := R_Num) (T := F_Num) (N := 8) hx hb hts w_Num hown hK hP 0 rfl rfl 1 (by decide) (hts _ kF_Num_27) (fun _ h9 => h9) rfl d_Num_findPower_120 ?_
                refine va_cald hx hb hK hP 1 0 rfl rfl (i := nI k) (vp_in_nI (show k < 2400 by omega) (by decide)) d_Num_findPower_123 ?_
                refine tv_i (nI (T (k))) (by rw [nI_clamp (by omega)]; rfl) ?_
                refine ca_i [(nm, .inr (3, [.ref x, .int (nI k), .int (nI e), .int mi, .int (nI (if hex then 4 else 3)), .int fr, .int to, .int (zI ((min (xv T (pS T e a) (k - pS T e a)) 1000000 : Nat) : Int))])), (x, .inl (cC, 2400, .inl (tx T)))] (va_runSN (As := [.int (nI (T (k)))]) (rest := []) ⟨hx, hb, hml, hown, hts⟩ (c_Rea_digitOf l D E (T (k)) (by have := hT k; omega) H.size) (xSN 1 hts kC_Rea_digitOf hE.1.1 kT_Rea_digitOf kN_Rea rfl rfl (by decide +kernel) ⟨Nat.le_of_ble_eq_true rfl, Nat.le_of_ble_eq_true rfl⟩) ⟨ct_blind hev, ct_pre hev hP hK hD hS hA hE [] rfl (by decide) [] rfl⟩ rfl rfl hl.1 rfl (lv_room (Nat.le_of_ble_eq_true rfl)) d_Num_findPower_124 ⟨Nat.le_of_ble_eq_true rfl, Nat.le_of_ble_eq_true rfl⟩) hP hD hS hA [] [0, 1] rfl rfl (by decide) (by decide) (fun rv u H locs hw hP hD hS hK1 => ?_)
                subst hw
                have hP : va_P D vcl [(nm, .inr (3, [.ref x, .int (nI k), .int (nI e), .int mi, .int (nI (if hex then 4 else 3)), .int fr, .int to, .int (zI ((min (xv T (pS T e a) (k - pS T e a)) 1000000 : Nat) : Int))])), (x, .inl (cC, 2400, .inl (tx T)))] H := hP
                have hD : va_D A [(nm, .inr (3, [.ref x, .int (nI k), .int (nI e), .int mi, .int (nI (if hex then 4 else 3)), .int fr, .int to, .int (zI ((min (xv T (pS T e a) (k - pS T e a)) 1000000 : Nat) : Int))])), (x, .inl (cC, 2400, .inl (tx T)))] := hD
                refine lv_bipush (v := 10) hx hb d_Num_findPower_127 (by decide) ?_
                refine lv_icmp_ge (tgt := 174) hx hb d_Num_findPower_129 (by decide) (fun c129 => ?_) (fun c129 => ?_)
                · have e129 : 10 ≤ dg (T k) := (nI_leI (a := 10) (by decide) (by have := dg_le (T k); omega)).mp c129
                  have hkx : k = pX T e a := by unfold pX; rw [← hv]; exact (sk_f (fun z => absurd z.2 (by omega))).symm
                  rw [hkx] at hP hD
                  have hP : va_P D vcl [(nm, .inr (3, [.ref x, .int (nI (pX T e a)), .int (nI e), .int mi, .int (nI (if hex then 4 else 3)), .int fr, .int to, .int (zI ((min (pE T e a) 1000000 : Nat) : Int))])), (x, .inl (cC, 2400, .inl (tx T)))] H := hP
                  have hD : va_D A [(nm, .inr (3, [.ref x, .int (nI (pX T e a)), .int (nI e), .int mi, .int (nI (if hex then 4 else 3)), .int fr, .int to, .int (zI ((min (pE T e a) 1000000 : Nat) : Int))])), (x, .inl (cC, 2400, .inl (tx T)))] := hD
                  refine lv_iload_n hx hb d_Num_findPower_174 rfl (lv_at hl 1 rfl) ?_
                  refine lv_if_eq (tgt := 187) hx hb d_Num_findPower_175 (by decide) (fun c175 => ?_) (fun c175 => ?_)
                  · have e175 : ngB T e a = false := (bI_0 _).mp c175
                    refine lv_aload_n hx hb d_Num_findPower_187 rfl (lv_at hl 0 rfl) ?_
                    refine va_get (D := D) (ci := 3) (v := .int (nI (pX T e a))) (C := R_Num) (T := F_Num) (N := 8) hx hb hts w_Num hown hK hP 0 rfl rfl 1 (by decide) (hts _ kF_Num_27) (fun _ h9 => h9) rfl d_Num_findPower_188 ?_
                    refine lv_iload_n hx hb d_Num_findPower_191 rfl (lv_at hl 2 rfl) ?_
                    refine lv_icmp_le (tgt := 199) hx hb d_Num_findPower_192 (by decide) (fun c192 => ?_) (fun c192 => ?_)
                    · have e192 : pX T e a ≤ pS T e a := (nI_leI (by omega) (by omega)).mp c192
                      refine lv_iconst (v := 0) hx hb d_Num_findPower_199 (by decide) ?_
                      rw [show nI (pX T e a) = nI (pAt hex T e a) by unfold pAt; rw [e34]; rfl, show zI ((min (pE T e a) 1000000 : Nat) : Int) = zI (pPw 1000000 hex T e a) by unfold pPw; rw [e34, e175]; rfl] at hP hD
                      exact rt_i hx hb hrt hlocks (rfl) (()) (by unfold pOk; rw [e34]; show 0 = bI (decide (pS T e a < pX T e a)); rw [decide_eq_false (by omega)]; rfl) (hP.sub [0, 1] rfl) (hK.sub [0] rfl) (hD.sub [0, 1] (by decide) rfl) hS d_Num_findPower_200
                    · have e192 : ¬ pX T e a ≤ pS T e a := fun z => c192 ((nI_leI (by omega) (by omega)).mpr z)
                      refine lv_iconst (v := 1) hx hb d_Num_findPower_195 (by decide) ?_
                      refine lv_goto (tgt := 200) hx hb d_Num_findPower_196 (by decide) ?_
                      rw [show nI (pX T e a) = nI (pAt hex T e a) by unfold pAt; rw [e34]; rfl, show zI ((min (pE T e a) 1000000 : Nat) : Int) = zI (pPw 1000000 hex T e a) by unfold pPw; rw [e34, e175]; rfl] at hP hD
                      exact rt_i hx hb hrt hlocks (rfl) (()) (by unfold pOk; rw [e34]; show 1 = bI (decide (pS T e a < pX T e a)); rw [decide_eq_true (by omega)]; rfl) (hP.sub [0, 1] rfl) (hK.sub [0] rfl) (hD.sub [0, 1] (by decide) rfl) hS d_Num_findPower_200
                  · have e175 : ngB T e a = true := tt_of (fun z => c175 ((bI_0 _).mpr z))
                    refine lv_aload_n hx hb d_Num_findPower_178 rfl (lv_at hl 0 rfl) ?_
                    refine lv_aload_n hx hb d_Num_findPower_179 rfl (lv_at hl 0 rfl) ?_
                    refine va_get (D := D) (ci := 3) (v := .int (zI ((min (pE T e a) 1000000 : Nat) : Int))) (C := R_Num) (T := F_Num) (N := 8) hx hb hts w_Num hown hK hP 0 rfl rfl 7 (by decide) (hts _ kF_Num_93) (fun _ h9 => h9) rfl d_Num_findPower_180 ?_
                    refine lv_ineg hx hb d_Num_findPower_183 ?_
                    refine tv_i (zI (-((min (pE T e a) 1000000 : Nat) : Int))) (zI_neg _) ?_
                    refine va_put (D := D) (ci := 3) (v := .int (zI (-((min (pE T e a) 1000000 : Nat) : Int)))) (ty := .int) (C := R_Num) (T := F_Num) (N := 8) hx hb hts w_Num t_Num tk_Num n_Num hown hK hP hD hS 0 rfl rfl 7 (by decide) (hts _ kF_Num_93) (fun _ h9 => h9) rfl (by decide +kernel) (rfl) (rfl) (Nat.le_of_ble_eq_true rfl) d_Num_findPower_184 (fun H locs hP hD hS => ?_)
                    have hP : va_P D vcl [(nm, .inr (3, [.ref x, .int (nI (pX T e a)), .int (nI e), .int mi, .int (nI (if hex then 4 else 3)), .int fr, .int to, .int (zI (-((min (pE T e a) 1000000 : Nat) : Int)))])), (x, .inl (cC, 2400, .inl (tx T)))] H := hP
                    have hD : va_D A [(nm, .inr (3, [.ref x, .int (nI (pX T e a)), .int (nI e), .int mi, .int (nI (if hex then 4 else 3)), .int fr, .int to, .int (zI (-((min (pE T e a) 1000000 : Nat) : Int)))])), (x, .inl (cC, 2400, .inl (tx T)))] := hD
                    refine lv_aload_n hx hb d_Num_findPower_187 rfl (lv_at hl 0 rfl) ?_
                    refine va_get (D := D) (ci := 3) (v := .int (nI (pX T e a))) (C := R_Num) (T := F_Num) (N := 8) hx hb hts w_Num hown hK hP 0 rfl rfl 1 (by decide) (hts _ kF_Num_27) (fun _ h9 => h9) rfl d_Num_findPower_188 ?_
                    refine lv_iload_n hx hb d_Num_findPower_191 rfl (lv_at hl 2 rfl) ?_
                    refine lv_icmp_le (tgt := 199) hx hb d_Num_findPower_192 (by decide) (fun c192 => ?_) (fun c192 => ?_)
                    · have e192 : pX T e a ≤ pS T e a := (nI_leI (by omega) (by omega)).mp c192
                      refine lv_iconst (v := 0) hx hb d_Num_findPower_199 (by decide) ?_
                      rw [show nI (pX T e a) = nI (pAt hex T e a) by unfold pAt; rw [e34]; rfl, show zI (-((min (pE T e a) 1000000 : Nat) : Int)) = zI (pPw 1000000 hex T e a) by unfold pPw; rw [e34, e175]; rfl] at hP hD
                      exact rt_i hx hb hrt hlocks (rfl) (()) (by unfold pOk; rw [e34]; show 0 = bI (decide (pS T e a < pX T e a)); rw [decide_eq_false (by omega)]; rfl) (hP.sub [0, 1] rfl) (hK.sub [0] rfl) (hD.sub [0, 1] (by decide) rfl) hS d_Num_findPower_200
                    · have e192 : ¬ pX T e a ≤ pS T e a := fun z => c192 ((nI_leI (by omega) (by omega)).mpr z)
                      refine lv_iconst (v := 1) hx hb d_Num_findPower_195 (by decide) ?_
                      refine lv_goto (tgt := 200) hx hb d_Num_findPower_196 (by decide) ?_
                      rw [show nI (pX T e a) = nI (pAt hex T e a) by unfold pAt; rw [e34]; rfl, show zI (-((min (pE T e a) 1000000 : Nat) : Int)) = zI (pPw 1000000 hex T e a) by unfold pPw; rw [e34, e175]; rfl] at hP hD
                      exact rt_i hx hb hrt hlocks (rfl) (()) (by unfold pOk; rw [e34]; show 1 = bI (decide (pS T e a < pX T e a)); rw [decide_eq_true (by omega)]; rfl) (hP.sub [0, 1] rfl) (hK.sub [0] rfl) (hD.sub [0, 1] (by decide) rfl) hS d_Num_findPower_200
                · have e129 : dg (T k) < 10 := Nat.lt_of_not_le (fun z => c129 ((nI_leI (a := 10) (by decide) (by have := dg_le (T k); omega)).mpr z))
                  refine lv_aload_n hx hb d_Num_findPower_132 rfl (lv_at hl 0 rfl) ?_
                  refine lv_aload_n hx hb d_Num_findPower_133 rfl (lv_at hl 0 rfl) ?_
                  refine va_get (D := D) (ci := 3) (v := .int (zI ((min (xv T (pS T e a) (k - pS T e a)) 1000000 : Nat) : Int))) (C := R_Num) (T := F_Num) (N := 8) hx hb hts w_Num hown hK hP 0 rfl rfl 7 (by decide) (hts _ kF_Num_93) (fun _ h9 => h9) rfl d_Num_findPower_134 ?_
                  refine lv_bipush (v := 10) hx hb d_Num_findPower_137 (by decide) ?_
                  refine lv_imul hx hb d_Num_findPower_139 ?_
                  refine lv_aload_n hx hb d_Num_findPower_140 rfl (lv_at hl 0 rfl) ?_
                  refine va_get (D := D) (ci := 3) (v := .ref x) (C := R_Num) (T := F_Num) (N := 8) hx hb hts w_Num hown hK hP 0 rfl rfl 0 (by decide) (hts _ kF_Num_9) (fun _ h9 => h9) rfl d_Num_findPower_141 ?_
                  refine lv_aload_n hx hb d_Num_findPower_144 rfl (lv_at hl 0 rfl) ?_
                  refine va_get (D := D) (ci := 3) (v := .int (nI k)) (C := R_Num) (T := F_Num) (N := 8) hx hb hts w_Num hown hK hP 0 rfl rfl 1 (by decide) (hts _ kF_Num_27) (fun _ h9 => h9) rfl d_Num_findPower_145 ?_
                  refine va_cald hx hb hK hP 1 0 rfl rfl (i := nI k) (vp_in_nI (show k < 2400 by omega) (by decide)) d_Num_findPower_148 ?_
                  refine tv_i (nI (T (k))) (by rw [nI_clamp (by omega)]; rfl) ?_
                  refine ca_i [(nm, .inr (3, [.ref x, .int (nI k), .int (nI e), .int mi, .int (nI (if hex then 4 else 3)), .int fr, .int to, .int (zI ((min (xv T (pS T e a) (k - pS T e a)) 1000000 : Nat) : Int))])), (x, .inl (cC, 2400, .inl (tx T)))] (va_runSN (As := [.int (nI (T (k)))]) (rest := [.int ((zI ((min (xv T (pS T e a) (k - pS T e a)) 1000000 : Nat) : Int)) * 10), .ref nm]) ⟨hx, hb, hml, hown, hts⟩ (c_Rea_digitOf l D E (T (k)) (by have := hT k; omega) H.size) (xSN 1 hts kC_Rea_digitOf hE.1.1 kT_Rea_digitOf kN_Rea rfl rfl (by decide +kernel) ⟨Nat.le_of_ble_eq_true rfl, Nat.le_of_ble_eq_true rfl⟩) ⟨ct_blind hev, ct_pre hev hP hK hD hS hA hE [] rfl (by decide) [] rfl⟩ rfl rfl hl.1 rfl (lv_room (Nat.le_of_ble_eq_true rfl)) d_Num_findPower_149 ⟨Nat.le_of_ble_eq_true rfl, Nat.le_of_ble_eq_true rfl⟩) hP hD hS hA [] [0, 1] rfl rfl (by decide) (by decide) (fun rv u H locs hw hP hD hS hK1 => ?_)
                  subst hw
                  have hP : va_P D vcl [(nm, .inr (3, [.ref x, .int (nI k), .int (nI e), .int mi, .int (nI (if hex then 4 else 3)), .int fr, .int to, .int (zI ((min (xv T (pS T e a) (k - pS T e a)) 1000000 : Nat) : Int))])), (x, .inl (cC, 2400, .inl (tx T)))] H := hP
                  have hD : va_D A [(nm, .inr (3, [.ref x, .int (nI k), .int (nI e), .int mi, .int (nI (if hex then 4 else 3)), .int fr, .int to, .int (zI ((min (xv T (pS T e a) (k - pS T e a)) 1000000 : Nat) : Int))])), (x, .inl (cC, 2400, .inl (tx T)))] := hD
                  refine lv_iadd hx hb d_Num_findPower_152 ?_
                  refine tv_i (zI ((min (xv T (pS T e a) (k - pS T e a)) 1000000 * 10 + dg (T k) : Nat) : Int)) (by show zI _ * zI 10 + nI _ = _; rw [zI_mul, ← zI_nI, zI_add]; exact congrArg zI (by omega)) ?_
                  refine lv_ldc hx hb hown (hts _ kK_Num_96) d_Num_findPower_153 ?_
                  refine va_mmin hx hb (by rw [hml]; exact hl.1.symm) hown (hts _ kM_Num_46) (hts _ kT_mmin) (hts _ kN_Math) (hts _ kC_mmin) (Nat.le_of_ble_eq_true rfl) (Nat.le_of_ble_eq_true rfl) (Nat.le_of_ble_eq_true rfl) (Nat.le_of_ble_eq_true rfl) d_Num_findPower_155 ?_
                  refine tv_i (zI ((min (xv T (pS T e a) ((k + 1) - pS T e a)) 1000000 : Nat) : Int)) (pw_min hk1) ?_
                  refine va_put (D := D) (ci := 3) (v := .int (zI ((min (xv T (pS T e a) ((k + 1) - pS T e a)) 1000000 : Nat) : Int))) (ty := .int) (C := R_Num) (T := F_Num) (N := 8) hx hb hts w_Num t_Num tk_Num n_Num hown hK hP hD hS 0 rfl rfl 7 (by decide) (hts _ kF_Num_93) (fun _ h9 => h9) rfl (by decide +kernel) (rfl) (rfl) (Nat.le_of_ble_eq_true rfl) d_Num_findPower_158 (fun H locs hP hD hS => ?_)
                  have hP : va_P D vcl [(nm, .inr (3, [.ref x, .int (nI k), .int (nI e), .int mi, .int (nI (if hex then 4 else 3)), .int fr, .int to, .int (zI ((min (xv T (pS T e a) ((k + 1) - pS T e a)) 1000000 : Nat) : Int))])), (x, .inl (cC, 2400, .inl (tx T)))] H := hP
                  have hD : va_D A [(nm, .inr (3, [.ref x, .int (nI k), .int (nI e), .int mi, .int (nI (if hex then 4 else 3)), .int fr, .int to, .int (zI ((min (xv T (pS T e a) ((k + 1) - pS T e a)) 1000000 : Nat) : Int))])), (x, .inl (cC, 2400, .inl (tx T)))] := hD
                  refine lv_aload_n hx hb d_Num_findPower_161 rfl (lv_at hl 0 rfl) ?_
                  refine lv_dup hx hb d_Num_findPower_162 rfl ?_
                  refine va_get (D := D) (ci := 3) (v := .int (nI k)) (C := R_Num) (T := F_Num) (N := 8) hx hb hts w_Num hown hK hP 0 rfl rfl 1 (by decide) (hts _ kF_Num_27) (fun _ h9 => h9) rfl d_Num_findPower_163 ?_
                  refine lv_iconst (v := 1) hx hb d_Num_findPower_166 (by decide) ?_
                  refine lv_iadd hx hb d_Num_findPower_167 ?_
                  refine tv_i (nI (k + 1)) (nI_1 k) ?_
                  refine va_put (D := D) (ci := 3) (v := .int (nI (k + 1))) (ty := .int) (C := R_Num) (T := F_Num) (N := 8) hx hb hts w_Num t_Num tk_Num n_Num hown hK hP hD hS 0 rfl rfl 1 (by decide) (hts _ kF_Num_27) (fun _ h9 => h9) rfl (by decide +kernel) (rfl) (rfl) (Nat.le_of_ble_eq_true rfl) d_Num_findPower_168 (fun H locs hP hD hS => ?_)
                  have hP : va_P D vcl [(nm, .inr (3, [.ref x, .int (nI (k + 1)), .int (nI e), .int mi, .int (nI (if hex then 4 else 3)), .int fr, .int to, .int (zI ((min (xv T (pS T e a) ((k + 1) - pS T e a)) 1000000 : Nat) : Int))])), (x, .inl (cC, 2400, .inl (tx T)))] H := hP
                  have hD : va_D A [(nm, .inr (3, [.ref x, .int (nI (k + 1)), .int (nI e), .int mi, .int (nI (if hex then 4 else 3)), .int fr, .int to, .int (zI ((min (xv T (pS T e a) ((k + 1) - pS T e a)) 1000000 : Nat) : Int))])), (x, .inl (cC, 2400, .inl (tx T)))] := hD
                  refine lv_goto (tgt := 104) hx hb d_Num_findPower_171 (by decide) ?_
                  exact ih (k + 1) (by omega) (by omega) (by omega) (by rw [← sk_t e112 e129]; exact hv) _ _ _ (hP.sub [0, 1] rfl) (hD.sub [0, 1] (by decide) rfl) hS (lv_sub hl [0, 1, 2] rfl)
          exact L104 (e - pS T e a + 1) (pS T e a) (by omega) (Nat.le_refl _) (hps.1) (rfl) _ _ _ (hP.sub [0, 1] rfl) (hD.sub [0, 1] (by decide) rfl) hS (lv_sub hl [3, 1, 0] rfl)
        · exact absurd ((bI_0 _).mp c77) (by rw [show ngB T e a = true from decide_eq_true e67]; decide)
    · have e34 : mkB hex T e a = false := (bI_0 _).mp c34
      refine lv_aload_n hx hb d_Num_findPower_37 rfl (lv_at hl 1 rfl) ?_
      refine va_get (D := D) (ci := 3) (v := .int (nI (if hex then 4 else 3))) (C := R_Num) (T := F_Num) (N := 8) hx hb hts w_Num hown hK hP 0 rfl rfl 4 (by decide) (hts _ kF_Num_37) (fun _ h9 => h9) rfl d_Num_findPower_38 ?_
      refine lv_iconst (v := 3) hx hb d_Num_findPower_41 (by decide) ?_
      refine lv_icmp_ne (tgt := 49) hx hb d_Num_findPower_42 (by decide) (fun c42 => ?_) (fun c42 => ?_)
      · refine lv_iconst (v := 0) hx hb d_Num_findPower_49 (by decide) ?_
        rw [show nI a = nI (pAt hex T e a) by unfold pAt; rw [e34]; rfl, show zI 0 = zI (pPw 1000000 hex T e a) by unfold pPw; rw [e34]; rfl] at hP hD
        exact rt_i hx hb hrt hlocks (rfl) (()) (by unfold pOk; rw [e34]; cases hex; (· exact absurd rfl c42); rfl) (hP.sub [0, 1] rfl) (hK.sub [0] rfl) (hD.sub [0, 1] (by decide) rfl) hS d_Num_findPower_50
      · refine lv_iconst (v := 1) hx hb d_Num_findPower_45 (by decide) ?_
        refine lv_goto (tgt := 50) hx hb d_Num_findPower_46 (by decide) ?_
        rw [show nI a = nI (pAt hex T e a) by unfold pAt; rw [e34]; rfl, show zI 0 = zI (pPw 1000000 hex T e a) by unfold pPw; rw [e34]; rfl] at hP hD
        exact rt_i hx hb hrt hlocks (rfl) (()) (by unfold pOk; rw [e34]; cases hex; (· rfl); exact absurd c42 (by decide)) (hP.sub [0, 1] rfl) (hK.sub [0] rfl) (hD.sub [0, 1] (by decide) rfl) hS d_Num_findPower_50

set_option maxHeartbeats 4000000 in
set_option maxRecDepth 100000 in
theorem c_Num_findLiteral (l : Launch) (D : va_G) (E : evD) (nm x : Nat) (cC : ClassId) (T : Nat → Nat) (hT : ∀ j, T j < 256) (mi fo fr to po : Int32) (a e : Nat) (hae : a ≤ e) (he : e ≤ 2400) : Ci (S := Int32 × Int32 × Int32 × Int32 × Int32) l y_Num_findLiteral (wz y_Num_findLiteral b_Num_findLiteral 1 (some .boolean)) ({ frames := 3, cells := 0, slots := 0, locals := 65 }) D vcl (ev1 E) [.ref nm] [(cC, .char)] [(nm, .inr (3, [.ref x, .int (nI a), .int (nI e), .int mi, .int fo, .int fr, .int to, .int po])), (x, .inl (cC, 2400, .inl (tx T)))] 0 0 (fun (r : Int32) (u : Int32 × Int32 × Int32 × Int32 × Int32) => r = bI (litB T e a) ∧ (litB T e a = true → u.2.1 = nI (if pxB T e a then 4 else 3) ∧ u.2.2.1 = nI (pxA T e a) ∧ u.2.2.2.1 = nI (lD T e a) ∧ u.2.2.2.2 = zI (pPw 1000000 (pxB T e a) T e (lD T e a)))) (fun _ => [(cC, .char)]) (fun u : Int32 × Int32 × Int32 × Int32 × Int32 => [(nm, .inr (3, [.ref x, .int u.1, .int (nI e), .int mi, .int u.2.1, .int u.2.2.1, .int u.2.2.2.1, .int u.2.2.2.2])), (x, .inl (cC, 2400, .inl (tx T)))]) := by
  have hev := ev1_ok E
  unfold Ci
  refine ct_of (y := y_Num_findLiteral) (av := [.ref nm]) (cc := b_Num_findLiteral) (maxL := 1) (ret := (some .boolean)) (Qc := fun A => va_Qi (S := Int32 × Int32 × Int32 × Int32 × Int32) (fun (r : Int32) (u : Int32 × Int32 × Int32 × Int32 × Int32) => r = bI (litB T e a) ∧ (litB T e a = true → u.2.1 = nI (if pxB T e a then 4 else 3) ∧ u.2.2.1 = nI (pxA T e a) ∧ u.2.2.2.1 = nI (lD T e a) ∧ u.2.2.2.2 = zI (pPw 1000000 (pxB T e a) T e (lD T e a)))) (fun u tS => ctB D vcl ((fun _ => [(cC, .char)]) u) ((fun u : Int32 × Int32 × Int32 × Int32 × Int32 => [(nm, .inr (3, [.ref x, .int u.1, .int (nI e), .int mi, .int u.2.1, .int u.2.2.1, .int u.2.2.2.1, .int u.2.2.2.2])), (x, .inl (cC, 2400, .inl (tx T)))]) u) A tS) A) (by decide) rfl (Nat.le_of_ble_eq_true rfl) ?_
  intro p ee s m below meth cde ls A H locs hx hb hml hrt hlocks hown hin hts hA hP hK hD hS hE hl
  have hown : s.vm.findClass R_Num = some m.cls := hown
  have hts := wz_g hts
  have hl : lv_has ls 1 [(0, .ref nm)] := hl
  have hld : lD T e a ≤ e := (dE_le (pxA_le hae).2).2
  have hlx : lX T e a ≤ e := (pAt_le hld).2
  refine lv_aload_n hx hb d_Num_findLiteral_0 rfl (lv_at hl 0 rfl) ?_
  refine lv_aload_n hx hb d_Num_findLiteral_1 rfl (lv_at hl 0 rfl) ?_
  refine ca_i [] (va_runV (As := []) (rest := [.ref nm]) ⟨hx, hb, hml, hown, hts⟩ (c_Num_skipPrefix l D E nm x cC T hT mi fo fr to po a e (hae) (he) H.size) (xV 0 hts kC_Num_skipPrefix kM_Num_65 kI_Num_skipPrefix kS_Num_skipPrefix kN_Num rfl rfl (by decide +kernel) ⟨Nat.le_of_ble_eq_true rfl, Nat.le_of_ble_eq_true rfl⟩) ⟨ct_blind hev, va_recv hK hP (ci := 3) (q0 := 0) rfl rfl, ct_pre hev hP hK hD hS hA hE [0, 1] rfl (by decide) [0] rfl⟩ rfl rfl hl.1 rfl (lv_room (Nat.le_of_ble_eq_true rfl)) d_Num_findLiteral_2 ⟨Nat.le_of_ble_eq_true rfl, Nat.le_of_ble_eq_true rfl⟩) hP hD hS hA [0, 1] [] rfl rfl (by decide) (by decide) (fun rv u H locs hw hP hD hS hK1 => ?_)
  subst hw
  have hP : va_P D vcl [(nm, .inr (3, [.ref x, .int (nI (pxA T e a)), .int (nI e), .int mi, .int fo, .int fr, .int to, .int po])), (x, .inl (cC, 2400, .inl (tx T)))] H := hP
  have hD : va_D A [(nm, .inr (3, [.ref x, .int (nI (pxA T e a)), .int (nI e), .int mi, .int fo, .int fr, .int to, .int po])), (x, .inl (cC, 2400, .inl (tx T)))] := hD
  refine lv_if_eq (tgt := 12) hx hb d_Num_findLiteral_5 (by decide) (fun c5 => ?_) (fun c5 => ?_)
  · have e5 : pxB T e a = false := (bI_0 _).mp c5
    refine lv_iconst (v := 3) hx hb d_Num_findLiteral_12 (by decide) ?_
    refine tv_i (nI (if pxB T e a then 4 else 3)) (by rw [e5]; rfl) ?_
    refine va_put (D := D) (ci := 3) (v := .int (nI (if pxB T e a then 4 else 3))) (ty := .int) (C := R_Num) (T := F_Num) (N := 8) hx hb hts w_Num t_Num tk_Num n_Num hown hK hP hD hS 0 rfl rfl 4 (by decide) (hts _ kF_Num_37) (fun _ h9 => h9) rfl (by decide +kernel) (rfl) (rfl) (Nat.le_of_ble_eq_true rfl) d_Num_findLiteral_13 (fun H locs hP hD hS => ?_)
    have hP : va_P D vcl [(nm, .inr (3, [.ref x, .int (nI (pxA T e a)), .int (nI e), .int mi, .int (nI (if pxB T e a then 4 else 3)), .int fr, .int to, .int po])), (x, .inl (cC, 2400, .inl (tx T)))] H := hP
    have hD : va_D A [(nm, .inr (3, [.ref x, .int (nI (pxA T e a)), .int (nI e), .int mi, .int (nI (if pxB T e a then 4 else 3)), .int fr, .int to, .int po])), (x, .inl (cC, 2400, .inl (tx T)))] := hD
    refine lv_aload_n hx hb d_Num_findLiteral_16 rfl (lv_at hl 0 rfl) ?_
    refine lv_aload_n hx hb d_Num_findLiteral_17 rfl (lv_at hl 0 rfl) ?_
    refine va_get (D := D) (ci := 3) (v := .int (nI (if pxB T e a then 4 else 3))) (C := R_Num) (T := F_Num) (N := 8) hx hb hts w_Num hown hK hP 0 rfl rfl 4 (by decide) (hts _ kF_Num_37) (fun _ h9 => h9) rfl d_Num_findLiteral_18 ?_
    refine lv_iconst (v := 4) hx hb d_Num_findLiteral_21 (by decide) ?_
    refine lv_icmp_ne (tgt := 30) hx hb d_Num_findLiteral_22 (by decide) (fun c22 => ?_) (fun c22 => ?_)
    · refine lv_bipush (v := 10) hx hb d_Num_findLiteral_30 (by decide) ?_
      refine tv_i (nI (bas (pxB T e a))) (by rw [e5]; rfl) ?_
      refine ca_i [] (va_runV (As := [.int (nI (bas (pxB T e a)))]) (rest := []) ⟨hx, hb, hml, hown, hts⟩ (c_Num_findDigits l D E nm x cC T hT mi (nI (if pxB T e a then 4 else 3)) fr to po (pxA T e a) e ((pxA_le hae).2) (he) (bas (pxB T e a)) (by unfold bas; split <;> decide) H.size) (xV 1 hts kC_Num_findDigits kM_Num_68 kI_Num_findDigits kS_Num_findDigits kN_Num rfl rfl (by decide +kernel) ⟨Nat.le_of_ble_eq_true rfl, Nat.le_of_ble_eq_true rfl⟩) ⟨ct_blind hev, va_recv hK hP (ci := 3) (q0 := 0) rfl rfl, ct_pre hev hP hK hD hS hA hE [0, 1] rfl (by decide) [0] rfl⟩ rfl rfl hl.1 rfl (lv_room (Nat.le_of_ble_eq_true rfl)) d_Num_findLiteral_32 ⟨Nat.le_of_ble_eq_true rfl, Nat.le_of_ble_eq_true rfl⟩) hP hD hS hA [0, 1] [] rfl rfl (by decide) (by decide) (fun rv u H locs hw hP hD hS hK1 => ?_)
      subst hw
      have hP : va_P D vcl [(nm, .inr (3, [.ref x, .int (nI (dE (bas (pxB T e a)) T e (pxA T e a))), .int (nI e), .int mi, .int (nI (if pxB T e a then 4 else 3)), .int (nI (pxA T e a)), .int (nI (dE (bas (pxB T e a)) T e (pxA T e a))), .int po])), (x, .inl (cC, 2400, .inl (tx T)))] H := hP
      have hD : va_D A [(nm, .inr (3, [.ref x, .int (nI (dE (bas (pxB T e a)) T e (pxA T e a))), .int (nI e), .int mi, .int (nI (if pxB T e a then 4 else 3)), .int (nI (pxA T e a)), .int (nI (dE (bas (pxB T e a)) T e (pxA T e a))), .int po])), (x, .inl (cC, 2400, .inl (tx T)))] := hD
      have hP : va_P D vcl [(nm, .inr (3, [.ref x, .int (nI (lD T e a)), .int (nI e), .int mi, .int (nI (if pxB T e a then 4 else 3)), .int (nI (pxA T e a)), .int (nI (lD T e a)), .int po])), (x, .inl (cC, 2400, .inl (tx T)))] H := hP
      have hD : va_D A [(nm, .inr (3, [.ref x, .int (nI (lD T e a)), .int (nI e), .int mi, .int (nI (if pxB T e a then 4 else 3)), .int (nI (pxA T e a)), .int (nI (lD T e a)), .int po])), (x, .inl (cC, 2400, .inl (tx T)))] := hD
      refine lv_if_eq (tgt := 45) hx hb d_Num_findLiteral_35 (by decide) (fun c35 => ?_) (fun c35 => ?_)
      · have e35 : decide (0 < dN (bas (pxB T e a)) T e (pxA T e a)) = false := (bI_0 _).mp c35
        refine lv_iconst (v := 0) hx hb d_Num_findLiteral_45 (by decide) ?_
        exact rt_i hx hb hrt hlocks (rfl) ((nI (lD T e a), nI (if pxB T e a then 4 else 3), nI (pxA T e a), nI (lD T e a), po)) (⟨by unfold litB; rw [e35]; rfl, fun z => by unfold litB at z; rw [e35, Bool.false_and] at z; exact absurd z (by decide)⟩) (hP.sub [0, 1] rfl) (hK.sub [0] rfl) (hD.sub [0, 1] (by decide) rfl) hS d_Num_findLiteral_46
      · have e35 : decide (0 < dN (bas (pxB T e a)) T e (pxA T e a)) = true := tt_of (fun z => c35 ((bI_0 _).mpr z))
        refine lv_aload_n hx hb d_Num_findLiteral_38 rfl (lv_at hl 0 rfl) ?_
        refine ca_i [] (va_runV (As := []) (rest := []) ⟨hx, hb, hml, hown, hts⟩ (c_Num_findPower l D E nm x cC T hT mi (nI (if pxB T e a then 4 else 3)) (nI (pxA T e a)) (nI (lD T e a)) po (lD T e a) e (hld) (he) (pxB T e a) H.size) (xV 0 hts kC_Num_findPower kM_Num_72 kI_Num_findPower kS_Num_findPower kN_Num rfl rfl (by decide +kernel) ⟨Nat.le_of_ble_eq_true rfl, Nat.le_of_ble_eq_true rfl⟩) ⟨ct_blind hev, va_recv hK hP (ci := 3) (q0 := 0) rfl rfl, ct_pre hev hP hK hD hS hA hE [0, 1] rfl (by decide) [0] rfl⟩ rfl rfl hl.1 rfl (lv_room (Nat.le_of_ble_eq_true rfl)) d_Num_findLiteral_39 ⟨Nat.le_of_ble_eq_true rfl, Nat.le_of_ble_eq_true rfl⟩) hP hD hS hA [0, 1] [] rfl rfl (by decide) (by decide) (fun rv u H locs hw hP hD hS hK1 => ?_)
        subst hw
        have hP : va_P D vcl [(nm, .inr (3, [.ref x, .int (nI (pAt (pxB T e a) T e (lD T e a))), .int (nI e), .int mi, .int (nI (if pxB T e a then 4 else 3)), .int (nI (pxA T e a)), .int (nI (lD T e a)), .int (zI (pPw 1000000 (pxB T e a) T e (lD T e a)))])), (x, .inl (cC, 2400, .inl (tx T)))] H := hP
        have hD : va_D A [(nm, .inr (3, [.ref x, .int (nI (pAt (pxB T e a) T e (lD T e a))), .int (nI e), .int mi, .int (nI (if pxB T e a then 4 else 3)), .int (nI (pxA T e a)), .int (nI (lD T e a)), .int (zI (pPw 1000000 (pxB T e a) T e (lD T e a)))])), (x, .inl (cC, 2400, .inl (tx T)))] := hD
        have hP : va_P D vcl [(nm, .inr (3, [.ref x, .int (nI (lX T e a)), .int (nI e), .int mi, .int (nI (if pxB T e a then 4 else 3)), .int (nI (pxA T e a)), .int (nI (lD T e a)), .int (zI (pPw 1000000 (pxB T e a) T e (lD T e a)))])), (x, .inl (cC, 2400, .inl (tx T)))] H := hP
        have hD : va_D A [(nm, .inr (3, [.ref x, .int (nI (lX T e a)), .int (nI e), .int mi, .int (nI (if pxB T e a then 4 else 3)), .int (nI (pxA T e a)), .int (nI (lD T e a)), .int (zI (pPw 1000000 (pxB T e a) T e (lD T e a)))])), (x, .inl (cC, 2400, .inl (tx T)))] := hD
        refine lv_if_ne (tgt := 47) hx hb d_Num_findLiteral_42 (by decide) (fun c42 => ?_) (fun c42 => ?_)
        · have e42 : pOk (pxB T e a) T e (lD T e a) = true := tt_of (fun z => c42 ((bI_0 _).mpr z))
          refine lv_aload_n hx hb d_Num_findLiteral_47 rfl (lv_at hl 0 rfl) ?_
          refine lv_bipush (v := 102) hx hb d_Num_findLiteral_48 (by decide) ?_
          refine lv_bipush (v := 70) hx hb d_Num_findLiteral_50 (by decide) ?_
          refine ca_i [] (va_runV (As := [.int 102, .int 70]) (rest := []) ⟨hx, hb, hml, hown, hts⟩ (c_Num_isHere l D E nm x cC T hT mi (nI (if pxB T e a then 4 else 3)) (nI (pxA T e a)) (nI (lD T e a)) (zI (pPw 1000000 (pxB T e a) T e (lD T e a))) (lX T e a) e (hlx) (he) 102 70 (by decide) (by decide) H.size) (xV 2 hts kC_Num_isHere kM_Num_75 kI_Num_isHere kS_Num_isHere kN_Num rfl rfl (by decide +kernel) ⟨Nat.le_of_ble_eq_true rfl, Nat.le_of_ble_eq_true rfl⟩) ⟨ct_blind hev, va_recv hK hP (ci := 3) (q0 := 0) rfl rfl, ct_pre hev hP hK hD hS hA hE [0, 1] rfl (by decide) [0] rfl⟩ rfl rfl hl.1 rfl (lv_room (Nat.le_of_ble_eq_true rfl)) d_Num_findLiteral_52 ⟨Nat.le_of_ble_eq_true rfl, Nat.le_of_ble_eq_true rfl⟩) hP hD hS hA [0, 1] [] rfl rfl (by decide) (by decide) (fun rv u H locs hw hP hD hS hK1 => ?_)
          subst hw
          have hP : va_P D vcl [(nm, .inr (3, [.ref x, .int (nI (lX T e a)), .int (nI e), .int mi, .int (nI (if pxB T e a then 4 else 3)), .int (nI (pxA T e a)), .int (nI (lD T e a)), .int (zI (pPw 1000000 (pxB T e a) T e (lD T e a)))])), (x, .inl (cC, 2400, .inl (tx T)))] H := hP
          have hD : va_D A [(nm, .inr (3, [.ref x, .int (nI (lX T e a)), .int (nI e), .int mi, .int (nI (if pxB T e a then 4 else 3)), .int (nI (pxA T e a)), .int (nI (lD T e a)), .int (zI (pPw 1000000 (pxB T e a) T e (lD T e a)))])), (x, .inl (cC, 2400, .inl (tx T)))] := hD
          refine lv_if_ne (tgt := 69) hx hb d_Num_findLiteral_55 (by decide) (fun c55 => ?_) (fun c55 => ?_)
          · have e55 : lk T e (lX T e a) = 102 ∨ lk T e (lX T e a) = 70 := of_decide_eq_true (tt_of (fun z => c55 ((bI_0 _).mpr z)))
            have hsf : sfB T e (lX T e a) = true := decide_eq_true (Or.inl e55)
            refine lv_aload_n hx hb d_Num_findLiteral_69 rfl (lv_at hl 0 rfl) ?_
            refine lv_dup hx hb d_Num_findLiteral_70 rfl ?_
            refine va_get (D := D) (ci := 3) (v := .int (nI (lX T e a))) (C := R_Num) (T := F_Num) (N := 8) hx hb hts w_Num hown hK hP 0 rfl rfl 1 (by decide) (hts _ kF_Num_27) (fun _ h9 => h9) rfl d_Num_findLiteral_71 ?_
            refine lv_iconst (v := 1) hx hb d_Num_findLiteral_74 (by decide) ?_
            refine lv_iadd hx hb d_Num_findLiteral_75 ?_
            refine tv_i (nI (lX T e a + 1)) (nI_1 _) ?_
            refine va_put (D := D) (ci := 3) (v := .int (nI (lX T e a + 1))) (ty := .int) (C := R_Num) (T := F_Num) (N := 8) hx hb hts w_Num t_Num tk_Num n_Num hown hK hP hD hS 0 rfl rfl 1 (by decide) (hts _ kF_Num_27) (fun _ h9 => h9) rfl (by decide +kernel) (rfl) (rfl) (Nat.le_of_ble_eq_true rfl) d_Num_findLiteral_76 (fun H locs hP hD hS => ?_)
            have hP : va_P D vcl [(nm, .inr (3, [.ref x, .int (nI (lX T e a + 1)), .int (nI e), .int mi, .int (nI (if pxB T e a then 4 else 3)), .int (nI (pxA T e a)), .int (nI (lD T e a)), .int (zI (pPw 1000000 (pxB T e a) T e (lD T e a)))])), (x, .inl (cC, 2400, .inl (tx T)))] H := hP
            have hD : va_D A [(nm, .inr (3, [.ref x, .int (nI (lX T e a + 1)), .int (nI e), .int mi, .int (nI (if pxB T e a then 4 else 3)), .int (nI (pxA T e a)), .int (nI (lD T e a)), .int (zI (pPw 1000000 (pxB T e a) T e (lD T e a)))])), (x, .inl (cC, 2400, .inl (tx T)))] := hD
            refine lv_aload_n hx hb d_Num_findLiteral_79 rfl (lv_at hl 0 rfl) ?_
            refine va_get (D := D) (ci := 3) (v := .int (nI (lX T e a + 1))) (C := R_Num) (T := F_Num) (N := 8) hx hb hts w_Num hown hK hP 0 rfl rfl 1 (by decide) (hts _ kF_Num_27) (fun _ h9 => h9) rfl d_Num_findLiteral_80 ?_
            refine lv_aload_n hx hb d_Num_findLiteral_83 rfl (lv_at hl 0 rfl) ?_
            refine va_get (D := D) (ci := 3) (v := .int (nI e)) (C := R_Num) (T := F_Num) (N := 8) hx hb hts w_Num hown hK hP 0 rfl rfl 2 (by decide) (hts _ kF_Num_52) (fun _ h9 => h9) rfl d_Num_findLiteral_84 ?_
            refine lv_icmp_ne (tgt := 94) hx hb d_Num_findLiteral_87 (by decide) (fun c87 => ?_) (fun c87 => ?_)
            · have e87 : decide ((if sfB T e (lX T e a) then lX T e a + 1 else lX T e a) = e) = false := by rw [hsf]; exact decide_eq_false (fun z => c87 (by rw [show (lX T e a + 1) = e from z]))
              refine lv_iconst (v := 0) hx hb d_Num_findLiteral_94 (by decide) ?_
              exact rt_i hx hb hrt hlocks (rfl) ((nI (lX T e a + 1), nI (if pxB T e a then 4 else 3), nI (pxA T e a), nI (lD T e a), zI (pPw 1000000 (pxB T e a) T e (lD T e a)))) (⟨by unfold litB; rw [e87, Bool.and_false, Bool.and_false]; rfl, fun z => by unfold litB at z; rw [e87, Bool.and_false, Bool.and_false] at z; exact absurd z (by decide)⟩) (hP.sub [0, 1] rfl) (hK.sub [0] rfl) (hD.sub [0, 1] (by decide) rfl) hS d_Num_findLiteral_95
            · have e87 : decide ((if sfB T e (lX T e a) then lX T e a + 1 else lX T e a) = e) = true := by rw [hsf]; exact decide_eq_true (show (lX T e a + 1) = e from (nI_eq (by omega) (by omega)).mp c87)
              refine lv_iconst (v := 1) hx hb d_Num_findLiteral_90 (by decide) ?_
              refine lv_goto (tgt := 95) hx hb d_Num_findLiteral_91 (by decide) ?_
              exact rt_i hx hb hrt hlocks (rfl) ((nI (lX T e a + 1), nI (if pxB T e a then 4 else 3), nI (pxA T e a), nI (lD T e a), zI (pPw 1000000 (pxB T e a) T e (lD T e a)))) (⟨by unfold litB; rw [e35, e42, e87]; rfl, fun _ => ⟨rfl, rfl, rfl, rfl⟩⟩) (hP.sub [0, 1] rfl) (hK.sub [0] rfl) (hD.sub [0, 1] (by decide) rfl) hS d_Num_findLiteral_95
          · have e55 : ¬ (lk T e (lX T e a) = 102 ∨ lk T e (lX T e a) = 70) := of_decide_eq_false ((bI_0 _).mp c55)
            refine lv_aload_n hx hb d_Num_findLiteral_58 rfl (lv_at hl 0 rfl) ?_
            refine lv_bipush (v := 100) hx hb d_Num_findLiteral_59 (by decide) ?_
            refine lv_bipush (v := 68) hx hb d_Num_findLiteral_61 (by decide) ?_
            refine ca_i [] (va_runV (As := [.int 100, .int 68]) (rest := []) ⟨hx, hb, hml, hown, hts⟩ (c_Num_isHere l D E nm x cC T hT mi (nI (if pxB T e a then 4 else 3)) (nI (pxA T e a)) (nI (lD T e a)) (zI (pPw 1000000 (pxB T e a) T e (lD T e a))) (lX T e a) e (hlx) (he) 100 68 (by decide) (by decide) H.size) (xV 2 hts kC_Num_isHere kM_Num_75 kI_Num_isHere kS_Num_isHere kN_Num rfl rfl (by decide +kernel) ⟨Nat.le_of_ble_eq_true rfl, Nat.le_of_ble_eq_true rfl⟩) ⟨ct_blind hev, va_recv hK hP (ci := 3) (q0 := 0) rfl rfl, ct_pre hev hP hK hD hS hA hE [0, 1] rfl (by decide) [0] rfl⟩ rfl rfl hl.1 rfl (lv_room (Nat.le_of_ble_eq_true rfl)) d_Num_findLiteral_63 ⟨Nat.le_of_ble_eq_true rfl, Nat.le_of_ble_eq_true rfl⟩) hP hD hS hA [0, 1] [] rfl rfl (by decide) (by decide) (fun rv u H locs hw hP hD hS hK1 => ?_)
            subst hw
            have hP : va_P D vcl [(nm, .inr (3, [.ref x, .int (nI (lX T e a)), .int (nI e), .int mi, .int (nI (if pxB T e a then 4 else 3)), .int (nI (pxA T e a)), .int (nI (lD T e a)), .int (zI (pPw 1000000 (pxB T e a) T e (lD T e a)))])), (x, .inl (cC, 2400, .inl (tx T)))] H := hP
            have hD : va_D A [(nm, .inr (3, [.ref x, .int (nI (lX T e a)), .int (nI e), .int mi, .int (nI (if pxB T e a then 4 else 3)), .int (nI (pxA T e a)), .int (nI (lD T e a)), .int (zI (pPw 1000000 (pxB T e a) T e (lD T e a)))])), (x, .inl (cC, 2400, .inl (tx T)))] := hD
            refine lv_if_eq (tgt := 79) hx hb d_Num_findLiteral_66 (by decide) (fun c66 => ?_) (fun c66 => ?_)
            · have e66 : ¬ (lk T e (lX T e a) = 100 ∨ lk T e (lX T e a) = 68) := of_decide_eq_false ((bI_0 _).mp c66)
              have hsf : sfB T e (lX T e a) = false := decide_eq_false (fun z => z.elim e55 e66)
              refine lv_aload_n hx hb d_Num_findLiteral_79 rfl (lv_at hl 0 rfl) ?_
              refine va_get (D := D) (ci := 3) (v := .int (nI (lX T e a))) (C := R_Num) (T := F_Num) (N := 8) hx hb hts w_Num hown hK hP 0 rfl rfl 1 (by decide) (hts _ kF_Num_27) (fun _ h9 => h9) rfl d_Num_findLiteral_80 ?_
              refine lv_aload_n hx hb d_Num_findLiteral_83 rfl (lv_at hl 0 rfl) ?_
              refine va_get (D := D) (ci := 3) (v := .int (nI e)) (C := R_Num) (T := F_Num) (N := 8) hx hb hts w_Num hown hK hP 0 rfl rfl 2 (by decide) (hts _ kF_Num_52) (fun _ h9 => h9) rfl d_Num_findLiteral_84 ?_
              refine lv_icmp_ne (tgt := 94) hx hb d_Num_findLiteral_87 (by decide) (fun c87 => ?_) (fun c87 => ?_)
              · have e87 : decide ((if sfB T e (lX T e a) then lX T e a + 1 else lX T e a) = e) = false := by rw [hsf]; exact decide_eq_false (fun z => c87 (by rw [show (lX T e a) = e from z]))
                refine lv_iconst (v := 0) hx hb d_Num_findLiteral_94 (by decide) ?_
                exact rt_i hx hb hrt hlocks (rfl) ((nI (lX T e a), nI (if pxB T e a then 4 else 3), nI (pxA T e a), nI (lD T e a), zI (pPw 1000000 (pxB T e a) T e (lD T e a)))) (⟨by unfold litB; rw [e87, Bool.and_false, Bool.and_false]; rfl, fun z => by unfold litB at z; rw [e87, Bool.and_false, Bool.and_false] at z; exact absurd z (by decide)⟩) (hP.sub [0, 1] rfl) (hK.sub [0] rfl) (hD.sub [0, 1] (by decide) rfl) hS d_Num_findLiteral_95
              · have e87 : decide ((if sfB T e (lX T e a) then lX T e a + 1 else lX T e a) = e) = true := by rw [hsf]; exact decide_eq_true (show (lX T e a) = e from (nI_eq (by omega) (by omega)).mp c87)
                refine lv_iconst (v := 1) hx hb d_Num_findLiteral_90 (by decide) ?_
                refine lv_goto (tgt := 95) hx hb d_Num_findLiteral_91 (by decide) ?_
                exact rt_i hx hb hrt hlocks (rfl) ((nI (lX T e a), nI (if pxB T e a then 4 else 3), nI (pxA T e a), nI (lD T e a), zI (pPw 1000000 (pxB T e a) T e (lD T e a)))) (⟨by unfold litB; rw [e35, e42, e87]; rfl, fun _ => ⟨rfl, rfl, rfl, rfl⟩⟩) (hP.sub [0, 1] rfl) (hK.sub [0] rfl) (hD.sub [0, 1] (by decide) rfl) hS d_Num_findLiteral_95
            · have e66 : lk T e (lX T e a) = 100 ∨ lk T e (lX T e a) = 68 := of_decide_eq_true (tt_of (fun z => c66 ((bI_0 _).mpr z)))
              have hsf : sfB T e (lX T e a) = true := decide_eq_true (Or.inr e66)
              refine lv_aload_n hx hb d_Num_findLiteral_69 rfl (lv_at hl 0 rfl) ?_
              refine lv_dup hx hb d_Num_findLiteral_70 rfl ?_
              refine va_get (D := D) (ci := 3) (v := .int (nI (lX T e a))) (C := R_Num) (T := F_Num) (N := 8) hx hb hts w_Num hown hK hP 0 rfl rfl 1 (by decide) (hts _ kF_Num_27) (fun _ h9 => h9) rfl d_Num_findLiteral_71 ?_
              refine lv_iconst (v := 1) hx hb d_Num_findLiteral_74 (by decide) ?_
              refine lv_iadd hx hb d_Num_findLiteral_75 ?_
              refine tv_i (nI (lX T e a + 1)) (nI_1 _) ?_
              refine va_put (D := D) (ci := 3) (v := .int (nI (lX T e a + 1))) (ty := .int) (C := R_Num) (T := F_Num) (N := 8) hx hb hts w_Num t_Num tk_Num n_Num hown hK hP hD hS 0 rfl rfl 1 (by decide) (hts _ kF_Num_27) (fun _ h9 => h9) rfl (by decide +kernel) (rfl) (rfl) (Nat.le_of_ble_eq_true rfl) d_Num_findLiteral_76 (fun H locs hP hD hS => ?_)
              have hP : va_P D vcl [(nm, .inr (3, [.ref x, .int (nI (lX T e a + 1)), .int (nI e), .int mi, .int (nI (if pxB T e a then 4 else 3)), .int (nI (pxA T e a)), .int (nI (lD T e a)), .int (zI (pPw 1000000 (pxB T e a) T e (lD T e a)))])), (x, .inl (cC, 2400, .inl (tx T)))] H := hP
              have hD : va_D A [(nm, .inr (3, [.ref x, .int (nI (lX T e a + 1)), .int (nI e), .int mi, .int (nI (if pxB T e a then 4 else 3)), .int (nI (pxA T e a)), .int (nI (lD T e a)), .int (zI (pPw 1000000 (pxB T e a) T e (lD T e a)))])), (x, .inl (cC, 2400, .inl (tx T)))] := hD
              refine lv_aload_n hx hb d_Num_findLiteral_79 rfl (lv_at hl 0 rfl) ?_
              refine va_get (D := D) (ci := 3) (v := .int (nI (lX T e a + 1))) (C := R_Num) (T := F_Num) (N := 8) hx hb hts w_Num hown hK hP 0 rfl rfl 1 (by decide) (hts _ kF_Num_27) (fun _ h9 => h9) rfl d_Num_findLiteral_80 ?_
              refine lv_aload_n hx hb d_Num_findLiteral_83 rfl (lv_at hl 0 rfl) ?_
              refine va_get (D := D) (ci := 3) (v := .int (nI e)) (C := R_Num) (T := F_Num) (N := 8) hx hb hts w_Num hown hK hP 0 rfl rfl 2 (by decide) (hts _ kF_Num_52) (fun _ h9 => h9) rfl d_Num_findLiteral_84 ?_
              refine lv_icmp_ne (tgt := 94) hx hb d_Num_findLiteral_87 (by decide) (fun c87 => ?_) (fun c87 => ?_)
              · have e87 : decide ((if sfB T e (lX T e a) then lX T e a + 1 else lX T e a) = e) = false := by rw [hsf]; exact decide_eq_false (fun z => c87 (by rw [show (lX T e a + 1) = e from z]))
                refine lv_iconst (v := 0) hx hb d_Num_findLiteral_94 (by decide) ?_
                exact rt_i hx hb hrt hlocks (rfl) ((nI (lX T e a + 1), nI (if pxB T e a then 4 else 3), nI (pxA T e a), nI (lD T e a), zI (pPw 1000000 (pxB T e a) T e (lD T e a)))) (⟨by unfold litB; rw [e87, Bool.and_false, Bool.and_false]; rfl, fun z => by unfold litB at z; rw [e87, Bool.and_false, Bool.and_false] at z; exact absurd z (by decide)⟩) (hP.sub [0, 1] rfl) (hK.sub [0] rfl) (hD.sub [0, 1] (by decide) rfl) hS d_Num_findLiteral_95
              · have e87 : decide ((if sfB T e (lX T e a) then lX T e a + 1 else lX T e a) = e) = true := by rw [hsf]; exact decide_eq_true (show (lX T e a + 1) = e from (nI_eq (by omega) (by omega)).mp c87)
                refine lv_iconst (v := 1) hx hb d_Num_findLiteral_90 (by decide) ?_
                refine lv_goto (tgt := 95) hx hb d_Num_findLiteral_91 (by decide) ?_
                exact rt_i hx hb hrt hlocks (rfl) ((nI (lX T e a + 1), nI (if pxB T e a then 4 else 3), nI (pxA T e a), nI (lD T e a), zI (pPw 1000000 (pxB T e a) T e (lD T e a)))) (⟨by unfold litB; rw [e35, e42, e87]; rfl, fun _ => ⟨rfl, rfl, rfl, rfl⟩⟩) (hP.sub [0, 1] rfl) (hK.sub [0] rfl) (hD.sub [0, 1] (by decide) rfl) hS d_Num_findLiteral_95
        · have e42 : pOk (pxB T e a) T e (lD T e a) = false := (bI_0 _).mp c42
          refine lv_iconst (v := 0) hx hb d_Num_findLiteral_45 (by decide) ?_
          exact rt_i hx hb hrt hlocks (rfl) ((nI (lX T e a), nI (if pxB T e a then 4 else 3), nI (pxA T e a), nI (lD T e a), zI (pPw 1000000 (pxB T e a) T e (lD T e a)))) (⟨by unfold litB; rw [e42, Bool.false_and, Bool.and_false]; rfl, fun z => by unfold litB at z; rw [e42, Bool.false_and, Bool.and_false] at z; exact absurd z (by decide)⟩) (hP.sub [0, 1] rfl) (hK.sub [0] rfl) (hD.sub [0, 1] (by decide) rfl) hS d_Num_findLiteral_46
    · exact absurd c22 (by rw [e5]; decide)
  · have e5 : pxB T e a = true := tt_of (fun z => c5 ((bI_0 _).mpr z))
    refine lv_iconst (v := 4) hx hb d_Num_findLiteral_8 (by decide) ?_
    refine tv_i (nI (if pxB T e a then 4 else 3)) (by rw [e5]; rfl) ?_
    refine lv_goto (tgt := 13) hx hb d_Num_findLiteral_9 (by decide) ?_
    refine va_put (D := D) (ci := 3) (v := .int (nI (if pxB T e a then 4 else 3))) (ty := .int) (C := R_Num) (T := F_Num) (N := 8) hx hb hts w_Num t_Num tk_Num n_Num hown hK hP hD hS 0 rfl rfl 4 (by decide) (hts _ kF_Num_37) (fun _ h9 => h9) rfl (by decide +kernel) (rfl) (rfl) (Nat.le_of_ble_eq_true rfl) d_Num_findLiteral_13 (fun H locs hP hD hS => ?_)
    have hP : va_P D vcl [(nm, .inr (3, [.ref x, .int (nI (pxA T e a)), .int (nI e), .int mi, .int (nI (if pxB T e a then 4 else 3)), .int fr, .int to, .int po])), (x, .inl (cC, 2400, .inl (tx T)))] H := hP
    have hD : va_D A [(nm, .inr (3, [.ref x, .int (nI (pxA T e a)), .int (nI e), .int mi, .int (nI (if pxB T e a then 4 else 3)), .int fr, .int to, .int po])), (x, .inl (cC, 2400, .inl (tx T)))] := hD
    refine lv_aload_n hx hb d_Num_findLiteral_16 rfl (lv_at hl 0 rfl) ?_
    refine lv_aload_n hx hb d_Num_findLiteral_17 rfl (lv_at hl 0 rfl) ?_
    refine va_get (D := D) (ci := 3) (v := .int (nI (if pxB T e a then 4 else 3))) (C := R_Num) (T := F_Num) (N := 8) hx hb hts w_Num hown hK hP 0 rfl rfl 4 (by decide) (hts _ kF_Num_37) (fun _ h9 => h9) rfl d_Num_findLiteral_18 ?_
    refine lv_iconst (v := 4) hx hb d_Num_findLiteral_21 (by decide) ?_
    refine lv_icmp_ne (tgt := 30) hx hb d_Num_findLiteral_22 (by decide) (fun c22 => ?_) (fun c22 => ?_)
    · exact absurd (by rw [e5]; rfl) c22
    · refine lv_bipush (v := 16) hx hb d_Num_findLiteral_25 (by decide) ?_
      refine tv_i (nI (bas (pxB T e a))) (by rw [e5]; rfl) ?_
      refine lv_goto (tgt := 32) hx hb d_Num_findLiteral_27 (by decide) ?_
      refine ca_i [] (va_runV (As := [.int (nI (bas (pxB T e a)))]) (rest := []) ⟨hx, hb, hml, hown, hts⟩ (c_Num_findDigits l D E nm x cC T hT mi (nI (if pxB T e a then 4 else 3)) fr to po (pxA T e a) e ((pxA_le hae).2) (he) (bas (pxB T e a)) (by unfold bas; split <;> decide) H.size) (xV 1 hts kC_Num_findDigits kM_Num_68 kI_Num_findDigits kS_Num_findDigits kN_Num rfl rfl (by decide +kernel) ⟨Nat.le_of_ble_eq_true rfl, Nat.le_of_ble_eq_true rfl⟩) ⟨ct_blind hev, va_recv hK hP (ci := 3) (q0 := 0) rfl rfl, ct_pre hev hP hK hD hS hA hE [0, 1] rfl (by decide) [0] rfl⟩ rfl rfl hl.1 rfl (lv_room (Nat.le_of_ble_eq_true rfl)) d_Num_findLiteral_32 ⟨Nat.le_of_ble_eq_true rfl, Nat.le_of_ble_eq_true rfl⟩) hP hD hS hA [0, 1] [] rfl rfl (by decide) (by decide) (fun rv u H locs hw hP hD hS hK1 => ?_)
      subst hw
      have hP : va_P D vcl [(nm, .inr (3, [.ref x, .int (nI (dE (bas (pxB T e a)) T e (pxA T e a))), .int (nI e), .int mi, .int (nI (if pxB T e a then 4 else 3)), .int (nI (pxA T e a)), .int (nI (dE (bas (pxB T e a)) T e (pxA T e a))), .int po])), (x, .inl (cC, 2400, .inl (tx T)))] H := hP
      have hD : va_D A [(nm, .inr (3, [.ref x, .int (nI (dE (bas (pxB T e a)) T e (pxA T e a))), .int (nI e), .int mi, .int (nI (if pxB T e a then 4 else 3)), .int (nI (pxA T e a)), .int (nI (dE (bas (pxB T e a)) T e (pxA T e a))), .int po])), (x, .inl (cC, 2400, .inl (tx T)))] := hD
      have hP : va_P D vcl [(nm, .inr (3, [.ref x, .int (nI (lD T e a)), .int (nI e), .int mi, .int (nI (if pxB T e a then 4 else 3)), .int (nI (pxA T e a)), .int (nI (lD T e a)), .int po])), (x, .inl (cC, 2400, .inl (tx T)))] H := hP
      have hD : va_D A [(nm, .inr (3, [.ref x, .int (nI (lD T e a)), .int (nI e), .int mi, .int (nI (if pxB T e a then 4 else 3)), .int (nI (pxA T e a)), .int (nI (lD T e a)), .int po])), (x, .inl (cC, 2400, .inl (tx T)))] := hD
      refine lv_if_eq (tgt := 45) hx hb d_Num_findLiteral_35 (by decide) (fun c35 => ?_) (fun c35 => ?_)
      · have e35 : decide (0 < dN (bas (pxB T e a)) T e (pxA T e a)) = false := (bI_0 _).mp c35
        refine lv_iconst (v := 0) hx hb d_Num_findLiteral_45 (by decide) ?_
        exact rt_i hx hb hrt hlocks (rfl) ((nI (lD T e a), nI (if pxB T e a then 4 else 3), nI (pxA T e a), nI (lD T e a), po)) (⟨by unfold litB; rw [e35]; rfl, fun z => by unfold litB at z; rw [e35, Bool.false_and] at z; exact absurd z (by decide)⟩) (hP.sub [0, 1] rfl) (hK.sub [0] rfl) (hD.sub [0, 1] (by decide) rfl) hS d_Num_findLiteral_46
      · have e35 : decide (0 < dN (bas (pxB T e a)) T e (pxA T e a)) = true := tt_of (fun z => c35 ((bI_0 _).mpr z))
        refine lv_aload_n hx hb d_Num_findLiteral_38 rfl (lv_at hl 0 rfl) ?_
        refine ca_i [] (va_runV (As := []) (rest := []) ⟨hx, hb, hml, hown, hts⟩ (c_Num_findPower l D E nm x cC T hT mi (nI (if pxB T e a then 4 else 3)) (nI (pxA T e a)) (nI (lD T e a)) po (lD T e a) e (hld) (he) (pxB T e a) H.size) (xV 0 hts kC_Num_findPower kM_Num_72 kI_Num_findPower kS_Num_findPower kN_Num rfl rfl (by decide +kernel) ⟨Nat.le_of_ble_eq_true rfl, Nat.le_of_ble_eq_true rfl⟩) ⟨ct_blind hev, va_recv hK hP (ci := 3) (q0 := 0) rfl rfl, ct_pre hev hP hK hD hS hA hE [0, 1] rfl (by decide) [0] rfl⟩ rfl rfl hl.1 rfl (lv_room (Nat.le_of_ble_eq_true rfl)) d_Num_findLiteral_39 ⟨Nat.le_of_ble_eq_true rfl, Nat.le_of_ble_eq_true rfl⟩) hP hD hS hA [0, 1] [] rfl rfl (by decide) (by decide) (fun rv u H locs hw hP hD hS hK1 => ?_)
        subst hw
        have hP : va_P D vcl [(nm, .inr (3, [.ref x, .int (nI (pAt (pxB T e a) T e (lD T e a))), .int (nI e), .int mi, .int (nI (if pxB T e a then 4 else 3)), .int (nI (pxA T e a)), .int (nI (lD T e a)), .int (zI (pPw 1000000 (pxB T e a) T e (lD T e a)))])), (x, .inl (cC, 2400, .inl (tx T)))] H := hP
        have hD : va_D A [(nm, .inr (3, [.ref x, .int (nI (pAt (pxB T e a) T e (lD T e a))), .int (nI e), .int mi, .int (nI (if pxB T e a then 4 else 3)), .int (nI (pxA T e a)), .int (nI (lD T e a)), .int (zI (pPw 1000000 (pxB T e a) T e (lD T e a)))])), (x, .inl (cC, 2400, .inl (tx T)))] := hD
        have hP : va_P D vcl [(nm, .inr (3, [.ref x, .int (nI (lX T e a)), .int (nI e), .int mi, .int (nI (if pxB T e a then 4 else 3)), .int (nI (pxA T e a)), .int (nI (lD T e a)), .int (zI (pPw 1000000 (pxB T e a) T e (lD T e a)))])), (x, .inl (cC, 2400, .inl (tx T)))] H := hP
        have hD : va_D A [(nm, .inr (3, [.ref x, .int (nI (lX T e a)), .int (nI e), .int mi, .int (nI (if pxB T e a then 4 else 3)), .int (nI (pxA T e a)), .int (nI (lD T e a)), .int (zI (pPw 1000000 (pxB T e a) T e (lD T e a)))])), (x, .inl (cC, 2400, .inl (tx T)))] := hD
        refine lv_if_ne (tgt := 47) hx hb d_Num_findLiteral_42 (by decide) (fun c42 => ?_) (fun c42 => ?_)
        · have e42 : pOk (pxB T e a) T e (lD T e a) = true := tt_of (fun z => c42 ((bI_0 _).mpr z))
          refine lv_aload_n hx hb d_Num_findLiteral_47 rfl (lv_at hl 0 rfl) ?_
          refine lv_bipush (v := 102) hx hb d_Num_findLiteral_48 (by decide) ?_
          refine lv_bipush (v := 70) hx hb d_Num_findLiteral_50 (by decide) ?_
          refine ca_i [] (va_runV (As := [.int 102, .int 70]) (rest := []) ⟨hx, hb, hml, hown, hts⟩ (c_Num_isHere l D E nm x cC T hT mi (nI (if pxB T e a then 4 else 3)) (nI (pxA T e a)) (nI (lD T e a)) (zI (pPw 1000000 (pxB T e a) T e (lD T e a))) (lX T e a) e (hlx) (he) 102 70 (by decide) (by decide) H.size) (xV 2 hts kC_Num_isHere kM_Num_75 kI_Num_isHere kS_Num_isHere kN_Num rfl rfl (by decide +kernel) ⟨Nat.le_of_ble_eq_true rfl, Nat.le_of_ble_eq_true rfl⟩) ⟨ct_blind hev, va_recv hK hP (ci := 3) (q0 := 0) rfl rfl, ct_pre hev hP hK hD hS hA hE [0, 1] rfl (by decide) [0] rfl⟩ rfl rfl hl.1 rfl (lv_room (Nat.le_of_ble_eq_true rfl)) d_Num_findLiteral_52 ⟨Nat.le_of_ble_eq_true rfl, Nat.le_of_ble_eq_true rfl⟩) hP hD hS hA [0, 1] [] rfl rfl (by decide) (by decide) (fun rv u H locs hw hP hD hS hK1 => ?_)
          subst hw
          have hP : va_P D vcl [(nm, .inr (3, [.ref x, .int (nI (lX T e a)), .int (nI e), .int mi, .int (nI (if pxB T e a then 4 else 3)), .int (nI (pxA T e a)), .int (nI (lD T e a)), .int (zI (pPw 1000000 (pxB T e a) T e (lD T e a)))])), (x, .inl (cC, 2400, .inl (tx T)))] H := hP
          have hD : va_D A [(nm, .inr (3, [.ref x, .int (nI (lX T e a)), .int (nI e), .int mi, .int (nI (if pxB T e a then 4 else 3)), .int (nI (pxA T e a)), .int (nI (lD T e a)), .int (zI (pPw 1000000 (pxB T e a) T e (lD T e a)))])), (x, .inl (cC, 2400, .inl (tx T)))] := hD
          refine lv_if_ne (tgt := 69) hx hb d_Num_findLiteral_55 (by decide) (fun c55 => ?_) (fun c55 => ?_)
          · have e55 : lk T e (lX T e a) = 102 ∨ lk T e (lX T e a) = 70 := of_decide_eq_true (tt_of (fun z => c55 ((bI_0 _).mpr z)))
            have hsf : sfB T e (lX T e a) = true := decide_eq_true (Or.inl e55)
            refine lv_aload_n hx hb d_Num_findLiteral_69 rfl (lv_at hl 0 rfl) ?_
            refine lv_dup hx hb d_Num_findLiteral_70 rfl ?_
            refine va_get (D := D) (ci := 3) (v := .int (nI (lX T e a))) (C := R_Num) (T := F_Num) (N := 8) hx hb hts w_Num hown hK hP 0 rfl rfl 1 (by decide) (hts _ kF_Num_27) (fun _ h9 => h9) rfl d_Num_findLiteral_71 ?_
            refine lv_iconst (v := 1) hx hb d_Num_findLiteral_74 (by decide) ?_
            refine lv_iadd hx hb d_Num_findLiteral_75 ?_
            refine tv_i (nI (lX T e a + 1)) (nI_1 _) ?_
            refine va_put (D := D) (ci := 3) (v := .int (nI (lX T e a + 1))) (ty := .int) (C := R_Num) (T := F_Num) (N := 8) hx hb hts w_Num t_Num tk_Num n_Num hown hK hP hD hS 0 rfl rfl 1 (by decide) (hts _ kF_Num_27) (fun _ h9 => h9) rfl (by decide +kernel) (rfl) (rfl) (Nat.le_of_ble_eq_true rfl) d_Num_findLiteral_76 (fun H locs hP hD hS => ?_)
            have hP : va_P D vcl [(nm, .inr (3, [.ref x, .int (nI (lX T e a + 1)), .int (nI e), .int mi, .int (nI (if pxB T e a then 4 else 3)), .int (nI (pxA T e a)), .int (nI (lD T e a)), .int (zI (pPw 1000000 (pxB T e a) T e (lD T e a)))])), (x, .inl (cC, 2400, .inl (tx T)))] H := hP
            have hD : va_D A [(nm, .inr (3, [.ref x, .int (nI (lX T e a + 1)), .int (nI e), .int mi, .int (nI (if pxB T e a then 4 else 3)), .int (nI (pxA T e a)), .int (nI (lD T e a)), .int (zI (pPw 1000000 (pxB T e a) T e (lD T e a)))])), (x, .inl (cC, 2400, .inl (tx T)))] := hD
            refine lv_aload_n hx hb d_Num_findLiteral_79 rfl (lv_at hl 0 rfl) ?_
            refine va_get (D := D) (ci := 3) (v := .int (nI (lX T e a + 1))) (C := R_Num) (T := F_Num) (N := 8) hx hb hts w_Num hown hK hP 0 rfl rfl 1 (by decide) (hts _ kF_Num_27) (fun _ h9 => h9) rfl d_Num_findLiteral_80 ?_
            refine lv_aload_n hx hb d_Num_findLiteral_83 rfl (lv_at hl 0 rfl) ?_
            refine va_get (D := D) (ci := 3) (v := .int (nI e)) (C := R_Num) (T := F_Num) (N := 8) hx hb hts w_Num hown hK hP 0 rfl rfl 2 (by decide) (hts _ kF_Num_52) (fun _ h9 => h9) rfl d_Num_findLiteral_84 ?_
            refine lv_icmp_ne (tgt := 94) hx hb d_Num_findLiteral_87 (by decide) (fun c87 => ?_) (fun c87 => ?_)
            · have e87 : decide ((if sfB T e (lX T e a) then lX T e a + 1 else lX T e a) = e) = false := by rw [hsf]; exact decide_eq_false (fun z => c87 (by rw [show (lX T e a + 1) = e from z]))
              refine lv_iconst (v := 0) hx hb d_Num_findLiteral_94 (by decide) ?_
              exact rt_i hx hb hrt hlocks (rfl) ((nI (lX T e a + 1), nI (if pxB T e a then 4 else 3), nI (pxA T e a), nI (lD T e a), zI (pPw 1000000 (pxB T e a) T e (lD T e a)))) (⟨by unfold litB; rw [e87, Bool.and_false, Bool.and_false]; rfl, fun z => by unfold litB at z; rw [e87, Bool.and_false, Bool.and_false] at z; exact absurd z (by decide)⟩) (hP.sub [0, 1] rfl) (hK.sub [0] rfl) (hD.sub [0, 1] (by decide) rfl) hS d_Num_findLiteral_95
            · have e87 : decide ((if sfB T e (lX T e a) then lX T e a + 1 else lX T e a) = e) = true := by rw [hsf]; exact decide_eq_true (show (lX T e a + 1) = e from (nI_eq (by omega) (by omega)).mp c87)
              refine lv_iconst (v := 1) hx hb d_Num_findLiteral_90 (by decide) ?_
              refine lv_goto (tgt := 95) hx hb d_Num_findLiteral_91 (by decide) ?_
              exact rt_i hx hb hrt hlocks (rfl) ((nI (lX T e a + 1), nI (if pxB T e a then 4 else 3), nI (pxA T e a), nI (lD T e a), zI (pPw 1000000 (pxB T e a) T e (lD T e a)))) (⟨by unfold litB; rw [e35, e42, e87]; rfl, fun _ => ⟨rfl, rfl, rfl, rfl⟩⟩) (hP.sub [0, 1] rfl) (hK.sub [0] rfl) (hD.sub [0, 1] (by decide) rfl) hS d_Num_findLiteral_95
          · have e55 : ¬ (lk T e (lX T e a) = 102 ∨ lk T e (lX T e a) = 70) := of_decide_eq_false ((bI_0 _).mp c55)
            refine lv_aload_n hx hb d_Num_findLiteral_58 rfl (lv_at hl 0 rfl) ?_
            refine lv_bipush (v := 100) hx hb d_Num_findLiteral_59 (by decide) ?_
            refine lv_bipush (v := 68) hx hb d_Num_findLiteral_61 (by decide) ?_
            refine ca_i [] (va_runV (As := [.int 100, .int 68]) (rest := []) ⟨hx, hb, hml, hown, hts⟩ (c_Num_isHere l D E nm x cC T hT mi (nI (if pxB T e a then 4 else 3)) (nI (pxA T e a)) (nI (lD T e a)) (zI (pPw 1000000 (pxB T e a) T e (lD T e a))) (lX T e a) e (hlx) (he) 100 68 (by decide) (by decide) H.size) (xV 2 hts kC_Num_isHere kM_Num_75 kI_Num_isHere kS_Num_isHere kN_Num rfl rfl (by decide +kernel) ⟨Nat.le_of_ble_eq_true rfl, Nat.le_of_ble_eq_true rfl⟩) ⟨ct_blind hev, va_recv hK hP (ci := 3) (q0 := 0) rfl rfl, ct_pre hev hP hK hD hS hA hE [0, 1] rfl (by decide) [0] rfl⟩ rfl rfl hl.1 rfl (lv_room (Nat.le_of_ble_eq_true rfl)) d_Num_findLiteral_63 ⟨Nat.le_of_ble_eq_true rfl, Nat.le_of_ble_eq_true rfl⟩) hP hD hS hA [0, 1] [] rfl rfl (by decide) (by decide) (fun rv u H locs hw hP hD hS hK1 => ?_)
            subst hw
            have hP : va_P D vcl [(nm, .inr (3, [.ref x, .int (nI (lX T e a)), .int (nI e), .int mi, .int (nI (if pxB T e a then 4 else 3)), .int (nI (pxA T e a)), .int (nI (lD T e a)), .int (zI (pPw 1000000 (pxB T e a) T e (lD T e a)))])), (x, .inl (cC, 2400, .inl (tx T)))] H := hP
            have hD : va_D A [(nm, .inr (3, [.ref x, .int (nI (lX T e a)), .int (nI e), .int mi, .int (nI (if pxB T e a then 4 else 3)), .int (nI (pxA T e a)), .int (nI (lD T e a)), .int (zI (pPw 1000000 (pxB T e a) T e (lD T e a)))])), (x, .inl (cC, 2400, .inl (tx T)))] := hD
            refine lv_if_eq (tgt := 79) hx hb d_Num_findLiteral_66 (by decide) (fun c66 => ?_) (fun c66 => ?_)
            · have e66 : ¬ (lk T e (lX T e a) = 100 ∨ lk T e (lX T e a) = 68) := of_decide_eq_false ((bI_0 _).mp c66)
              have hsf : sfB T e (lX T e a) = false := decide_eq_false (fun z => z.elim e55 e66)
              refine lv_aload_n hx hb d_Num_findLiteral_79 rfl (lv_at hl 0 rfl) ?_
              refine va_get (D := D) (ci := 3) (v := .int (nI (lX T e a))) (C := R_Num) (T := F_Num) (N := 8) hx hb hts w_Num hown hK hP 0 rfl rfl 1 (by decide) (hts _ kF_Num_27) (fun _ h9 => h9) rfl d_Num_findLiteral_80 ?_
              refine lv_aload_n hx hb d_Num_findLiteral_83 rfl (lv_at hl 0 rfl) ?_
              refine va_get (D := D) (ci := 3) (v := .int (nI e)) (C := R_Num) (T := F_Num) (N := 8) hx hb hts w_Num hown hK hP 0 rfl rfl 2 (by decide) (hts _ kF_Num_52) (fun _ h9 => h9) rfl d_Num_findLiteral_84 ?_
              refine lv_icmp_ne (tgt := 94) hx hb d_Num_findLiteral_87 (by decide) (fun c87 => ?_) (fun c87 => ?_)
              · have e87 : decide ((if sfB T e (lX T e a) then lX T e a + 1 else lX T e a) = e) = false := by rw [hsf]; exact decide_eq_false (fun z => c87 (by rw [show (lX T e a) = e from z]))
                refine lv_iconst (v := 0) hx hb d_Num_findLiteral_94 (by decide) ?_
                exact rt_i hx hb hrt hlocks (rfl) ((nI (lX T e a), nI (if pxB T e a then 4 else 3), nI (pxA T e a), nI (lD T e a), zI (pPw 1000000 (pxB T e a) T e (lD T e a)))) (⟨by unfold litB; rw [e87, Bool.and_false, Bool.and_false]; rfl, fun z => by unfold litB at z; rw [e87, Bool.and_false, Bool.and_false] at z; exact absurd z (by decide)⟩) (hP.sub [0, 1] rfl) (hK.sub [0] rfl) (hD.sub [0, 1] (by decide) rfl) hS d_Num_findLiteral_95
              · have e87 : decide ((if sfB T e (lX T e a) then lX T e a + 1 else lX T e a) = e) = true := by rw [hsf]; exact decide_eq_true (show (lX T e a) = e from (nI_eq (by omega) (by omega)).mp c87)
                refine lv_iconst (v := 1) hx hb d_Num_findLiteral_90 (by decide) ?_
                refine lv_goto (tgt := 95) hx hb d_Num_findLiteral_91 (by decide) ?_
                exact rt_i hx hb hrt hlocks (rfl) ((nI (lX T e a), nI (if pxB T e a then 4 else 3), nI (pxA T e a), nI (lD T e a), zI (pPw 1000000 (pxB T e a) T e (lD T e a)))) (⟨by unfold litB; rw [e35, e42, e87]; rfl, fun _ => ⟨rfl, rfl, rfl, rfl⟩⟩) (hP.sub [0, 1] rfl) (hK.sub [0] rfl) (hD.sub [0, 1] (by decide) rfl) hS d_Num_findLiteral_95
            · have e66 : lk T e (lX T e a) = 100 ∨ lk T e (lX T e a) = 68 := of_decide_eq_true (tt_of (fun z => c66 ((bI_0 _).mpr z)))
              have hsf : sfB T e (lX T e a) = true := decide_eq_true (Or.inr e66)
              refine lv_aload_n hx hb d_Num_findLiteral_69 rfl (lv_at hl 0 rfl) ?_
              refine lv_dup hx hb d_Num_findLiteral_70 rfl ?_
              refine va_get (D := D) (ci := 3) (v := .int (nI (lX T e a))) (C := R_Num) (T := F_Num) (N := 8) hx hb hts w_Num hown hK hP 0 rfl rfl 1 (by decide) (hts _ kF_Num_27) (fun _ h9 => h9) rfl d_Num_findLiteral_71 ?_
              refine lv_iconst (v := 1) hx hb d_Num_findLiteral_74 (by decide) ?_
              refine lv_iadd hx hb d_Num_findLiteral_75 ?_
              refine tv_i (nI (lX T e a + 1)) (nI_1 _) ?_
              refine va_put (D := D) (ci := 3) (v := .int (nI (lX T e a + 1))) (ty := .int) (C := R_Num) (T := F_Num) (N := 8) hx hb hts w_Num t_Num tk_Num n_Num hown hK hP hD hS 0 rfl rfl 1 (by decide) (hts _ kF_Num_27) (fun _ h9 => h9) rfl (by decide +kernel) (rfl) (rfl) (Nat.le_of_ble_eq_true rfl) d_Num_findLiteral_76 (fun H locs hP hD hS => ?_)
              have hP : va_P D vcl [(nm, .inr (3, [.ref x, .int (nI (lX T e a + 1)), .int (nI e), .int mi, .int (nI (if pxB T e a then 4 else 3)), .int (nI (pxA T e a)), .int (nI (lD T e a)), .int (zI (pPw 1000000 (pxB T e a) T e (lD T e a)))])), (x, .inl (cC, 2400, .inl (tx T)))] H := hP
              have hD : va_D A [(nm, .inr (3, [.ref x, .int (nI (lX T e a + 1)), .int (nI e), .int mi, .int (nI (if pxB T e a then 4 else 3)), .int (nI (pxA T e a)), .int (nI (lD T e a)), .int (zI (pPw 1000000 (pxB T e a) T e (lD T e a)))])), (x, .inl (cC, 2400, .inl (tx T)))] := hD
              refine lv_aload_n hx hb d_Num_findLiteral_79 rfl (lv_at hl 0 rfl) ?_
              refine va_get (D := D) (ci := 3) (v := .int (nI (lX T e a + 1))) (C := R_Num) (T := F_Num) (N := 8) hx hb hts w_Num hown hK hP 0 rfl rfl 1 (by decide) (hts _ kF_Num_27) (fun _ h9 => h9) rfl d_Num_findLiteral_80 ?_
              refine lv_aload_n hx hb d_Num_findLiteral_83 rfl (lv_at hl 0 rfl) ?_
              refine va_get (D := D) (ci := 3) (v := .int (nI e)) (C := R_Num) (T := F_Num) (N := 8) hx hb hts w_Num hown hK hP 0 rfl rfl 2 (by decide) (hts _ kF_Num_52) (fun _ h9 => h9) rfl d_Num_findLiteral_84 ?_
              refine lv_icmp_ne (tgt := 94) hx hb d_Num_findLiteral_87 (by decide) (fun c87 => ?_) (fun c87 => ?_)
              · have e87 : decide ((if sfB T e (lX T e a) then lX T e a + 1 else lX T e a) = e) = false := by rw [hsf]; exact decide_eq_false (fun z => c87 (by rw [show (lX T e a + 1) = e from z]))
                refine lv_iconst (v := 0) hx hb d_Num_findLiteral_94 (by decide) ?_
                exact rt_i hx hb hrt hlocks (rfl) ((nI (lX T e a + 1), nI (if pxB T e a then 4 else 3), nI (pxA T e a), nI (lD T e a), zI (pPw 1000000 (pxB T e a) T e (lD T e a)))) (⟨by unfold litB; rw [e87, Bool.and_false, Bool.and_false]; rfl, fun z => by unfold litB at z; rw [e87, Bool.and_false, Bool.and_false] at z; exact absurd z (by decide)⟩) (hP.sub [0, 1] rfl) (hK.sub [0] rfl) (hD.sub [0, 1] (by decide) rfl) hS d_Num_findLiteral_95
              · have e87 : decide ((if sfB T e (lX T e a) then lX T e a + 1 else lX T e a) = e) = true := by rw [hsf]; exact decide_eq_true (show (lX T e a + 1) = e from (nI_eq (by omega) (by omega)).mp c87)
                refine lv_iconst (v := 1) hx hb d_Num_findLiteral_90 (by decide) ?_
                refine lv_goto (tgt := 95) hx hb d_Num_findLiteral_91 (by decide) ?_
                exact rt_i hx hb hrt hlocks (rfl) ((nI (lX T e a + 1), nI (if pxB T e a then 4 else 3), nI (pxA T e a), nI (lD T e a), zI (pPw 1000000 (pxB T e a) T e (lD T e a)))) (⟨by unfold litB; rw [e35, e42, e87]; rfl, fun _ => ⟨rfl, rfl, rfl, rfl⟩⟩) (hP.sub [0, 1] rfl) (hK.sub [0] rfl) (hD.sub [0, 1] (by decide) rfl) hS d_Num_findLiteral_95
        · have e42 : pOk (pxB T e a) T e (lD T e a) = false := (bI_0 _).mp c42
          refine lv_iconst (v := 0) hx hb d_Num_findLiteral_45 (by decide) ?_
          exact rt_i hx hb hrt hlocks (rfl) ((nI (lX T e a), nI (if pxB T e a then 4 else 3), nI (pxA T e a), nI (lD T e a), zI (pPw 1000000 (pxB T e a) T e (lD T e a)))) (⟨by unfold litB; rw [e42, Bool.false_and, Bool.and_false]; rfl, fun z => by unfold litB at z; rw [e42, Bool.false_and, Bool.and_false] at z; exact absurd z (by decide)⟩) (hP.sub [0, 1] rfl) (hK.sub [0] rfl) (hD.sub [0, 1] (by decide) rfl) hS d_Num_findLiteral_46

set_option maxHeartbeats 4000000 in
set_option maxRecDepth 100000 in
theorem c_Num_findIn (l : Launch) (D : va_G) (E : evD) (nm x : Nat) (cC : ClassId) (T : Nat → Nat) (hT : ∀ j, T j < 256) (mi fo fr to po : Int32) (v1 v2 : Int32) (n : Nat) (hn : n ≤ 2400) : Ci (S := Int32 × Int32 × Int32 × Int32 × Int32 × Int32 × Int32) l y_Num_findIn (wz y_Num_findIn b_Num_findIn 2 (some .boolean)) ({ frames := 5, cells := 0, slots := 0, locals := 107 }) D vcl (ev1 E) [.ref nm, .int (nI n)] [(cC, .char)] [(nm, .inr (3, [.ref x, .int v1, .int v2, .int mi, .int fo, .int fr, .int to, .int po])), (x, .inl (cC, 2400, .inl (tx T)))] 0 0 (fun (r : Int32) (u : Int32 × Int32 × Int32 × Int32 × Int32 × Int32 × Int32) => finOK T n r u) (fun _ => [(cC, .char)]) (fun u : Int32 × Int32 × Int32 × Int32 × Int32 × Int32 × Int32 => [(nm, .inr (3, [.ref x, .int u.1, .int u.2.1, .int u.2.2.1, .int u.2.2.2.1, .int u.2.2.2.2.1, .int u.2.2.2.2.2.1, .int u.2.2.2.2.2.2])), (x, .inl (cC, 2400, .inl (tx T)))]) := by
  have hev := ev1_ok E
  unfold Ci
  refine ct_of (y := y_Num_findIn) (av := [.ref nm, .int (nI n)]) (cc := b_Num_findIn) (maxL := 2) (ret := (some .boolean)) (Qc := fun A => va_Qi (S := Int32 × Int32 × Int32 × Int32 × Int32 × Int32 × Int32) (fun (r : Int32) (u : Int32 × Int32 × Int32 × Int32 × Int32 × Int32 × Int32) => finOK T n r u) (fun u tS => ctB D vcl ((fun _ => [(cC, .char)]) u) ((fun u : Int32 × Int32 × Int32 × Int32 × Int32 × Int32 × Int32 => [(nm, .inr (3, [.ref x, .int u.1, .int u.2.1, .int u.2.2.1, .int u.2.2.2.1, .int u.2.2.2.2.1, .int u.2.2.2.2.2.1, .int u.2.2.2.2.2.2])), (x, .inl (cC, 2400, .inl (tx T)))]) u) A tS) A) (by decide) rfl (Nat.le_of_ble_eq_true rfl) ?_
  intro p ee s m below meth cde ls A H locs hx hb hml hrt hlocks hown hin hts hA hP hK hD hS hE hl
  have hown : s.vm.findClass R_Num = some m.cls := hown
  have hts := wz_g hts
  have hl : lv_has ls 2 [(0, .ref nm), (1, .int (nI n))] := hl
  have hxe : xE T n ≤ 2400 := Nat.le_trans (tE_le T n) hn
  have hlb := lk_b hT (xE T n) (xA T n)
  refine lv_aload_n hx hb d_Num_findIn_0 rfl (lv_at hl 0 rfl) ?_
  refine lv_iload_n hx hb d_Num_findIn_1 rfl (lv_at hl 1 rfl) ?_
  refine ca_v [] (va_runV (As := [.int (nI n)]) (rest := []) ⟨hx, hb, hml, hown, hts⟩ (c_Num_trim l D E nm x cC T hT mi fo fr to po v1 v2 n hn H.size) (xV 1 hts kC_Num_trim kM_Num_15 kI_Num_trim kS_Num_trim kN_Num rfl rfl (by decide +kernel) ⟨Nat.le_of_ble_eq_true rfl, Nat.le_of_ble_eq_true rfl⟩) ⟨ct_blind hev, va_recv hK hP (ci := 3) (q0 := 0) rfl rfl, ct_pre hev hP hK hD hS hA hE [0, 1] rfl (by decide) [0] rfl⟩ rfl rfl hl.1 rfl (lv_room (Nat.le_of_ble_eq_true rfl)) d_Num_findIn_2 ⟨Nat.le_of_ble_eq_true rfl, Nat.le_of_ble_eq_true rfl⟩) hP hD hS hA [0, 1] [] rfl rfl (by decide) (by decide) (fun u H locs hw hP hD hS hK1 => ?_)
  have hP : va_P D vcl [(nm, .inr (3, [.ref x, .int (nI (xA T n)), .int (nI (xE T n)), .int mi, .int fo, .int fr, .int to, .int po])), (x, .inl (cC, 2400, .inl (tx T)))] H := hP
  have hD : va_D A [(nm, .inr (3, [.ref x, .int (nI (xA T n)), .int (nI (xE T n)), .int mi, .int fo, .int fr, .int to, .int po])), (x, .inl (cC, 2400, .inl (tx T)))] := hD
  refine lv_aload_n hx hb d_Num_findIn_5 rfl (lv_at hl 0 rfl) ?_
  refine lv_aload_n hx hb d_Num_findIn_6 rfl (lv_at hl 0 rfl) ?_
  refine ca_i [] (va_runV (As := []) (rest := [.ref nm]) ⟨hx, hb, hml, hown, hts⟩ (c_Num_here l D E nm x cC T hT mi fo fr to po (xA T n) (xE T n) (xA_le T n) (hxe) H.size) (xV 0 hts kC_Num_here kM_Num_19 kI_Num_here kS_Num_here kN_Num rfl rfl (by decide +kernel) ⟨Nat.le_of_ble_eq_true rfl, Nat.le_of_ble_eq_true rfl⟩) ⟨ct_blind hev, va_recv hK hP (ci := 3) (q0 := 0) rfl rfl, ct_pre hev hP hK hD hS hA hE [0, 1] rfl (by decide) [0] rfl⟩ rfl rfl hl.1 rfl (lv_room (Nat.le_of_ble_eq_true rfl)) d_Num_findIn_7 ⟨Nat.le_of_ble_eq_true rfl, Nat.le_of_ble_eq_true rfl⟩) hP hD hS hA [0, 1] [] rfl rfl (by decide) (by decide) (fun rv u H locs hw hP hD hS hK1 => ?_)
  subst hw
  have hP : va_P D vcl [(nm, .inr (3, [.ref x, .int (nI (xA T n)), .int (nI (xE T n)), .int mi, .int fo, .int fr, .int to, .int po])), (x, .inl (cC, 2400, .inl (tx T)))] H := hP
  have hD : va_D A [(nm, .inr (3, [.ref x, .int (nI (xA T n)), .int (nI (xE T n)), .int mi, .int fo, .int fr, .int to, .int po])), (x, .inl (cC, 2400, .inl (tx T)))] := hD
  refine lv_bipush (v := 45) hx hb d_Num_findIn_10 (by decide) ?_
  refine lv_icmp_ne (tgt := 19) hx hb d_Num_findIn_12 (by decide) (fun c12 => ?_) (fun c12 => ?_)
  · have e12 : ¬ lk T (xE T n) (xA T n) = 45 := fun z => c12 (by rw [z]; rfl)
    refine lv_iconst (v := 0) hx hb d_Num_findIn_19 (by decide) ?_
    refine tv_i (bI (xM T n)) (by rw [show xM T n = false from decide_eq_false e12]; rfl) ?_
    refine va_put (D := D) (ci := 3) (v := .int (bI (xM T n))) (ty := .boolean) (C := R_Num) (T := F_Num) (N := 8) hx hb hts w_Num t_Num tk_Num n_Num hown hK hP hD hS 0 rfl rfl 3 (by decide) (hts _ kF_Num_23) (fun _ h9 => h9) rfl (by decide +kernel) (by cases xM T n <;> rfl) (by cases xM T n <;> rfl) (Nat.le_of_ble_eq_true rfl) d_Num_findIn_20 (fun H locs hP hD hS => ?_)
    have hP : va_P D vcl [(nm, .inr (3, [.ref x, .int (nI (xA T n)), .int (nI (xE T n)), .int (bI (xM T n)), .int fo, .int fr, .int to, .int po])), (x, .inl (cC, 2400, .inl (tx T)))] H := hP
    have hD : va_D A [(nm, .inr (3, [.ref x, .int (nI (xA T n)), .int (nI (xE T n)), .int (bI (xM T n)), .int fo, .int fr, .int to, .int po])), (x, .inl (cC, 2400, .inl (tx T)))] := hD
    refine lv_aload_n hx hb d_Num_findIn_23 rfl (lv_at hl 0 rfl) ?_
    refine va_get (D := D) (ci := 3) (v := .int (bI (xM T n))) (C := R_Num) (T := F_Num) (N := 8) hx hb hts w_Num hown hK hP 0 rfl rfl 3 (by decide) (hts _ kF_Num_23) (fun _ h9 => h9) rfl d_Num_findIn_24 ?_
    refine lv_if_ne (tgt := 39) hx hb d_Num_findIn_27 (by decide) (fun c27 => ?_) (fun c27 => ?_)
    · exact absurd ((bI_0 _).mpr (decide_eq_false e12)) c27
    · refine lv_aload_n hx hb d_Num_findIn_30 rfl (lv_at hl 0 rfl) ?_
      refine ca_i [] (va_runV (As := []) (rest := []) ⟨hx, hb, hml, hown, hts⟩ (c_Num_here l D E nm x cC T hT (bI (xM T n)) fo fr to po (xA T n) (xE T n) (xA_le T n) (hxe) H.size) (xV 0 hts kC_Num_here kM_Num_19 kI_Num_here kS_Num_here kN_Num rfl rfl (by decide +kernel) ⟨Nat.le_of_ble_eq_true rfl, Nat.le_of_ble_eq_true rfl⟩) ⟨ct_blind hev, va_recv hK hP (ci := 3) (q0 := 0) rfl rfl, ct_pre hev hP hK hD hS hA hE [0, 1] rfl (by decide) [0] rfl⟩ rfl rfl hl.1 rfl (lv_room (Nat.le_of_ble_eq_true rfl)) d_Num_findIn_31 ⟨Nat.le_of_ble_eq_true rfl, Nat.le_of_ble_eq_true rfl⟩) hP hD hS hA [0, 1] [] rfl rfl (by decide) (by decide) (fun rv u H locs hw hP hD hS hK1 => ?_)
      subst hw
      have hP : va_P D vcl [(nm, .inr (3, [.ref x, .int (nI (xA T n)), .int (nI (xE T n)), .int (bI (xM T n)), .int fo, .int fr, .int to, .int po])), (x, .inl (cC, 2400, .inl (tx T)))] H := hP
      have hD : va_D A [(nm, .inr (3, [.ref x, .int (nI (xA T n)), .int (nI (xE T n)), .int (bI (xM T n)), .int fo, .int fr, .int to, .int po])), (x, .inl (cC, 2400, .inl (tx T)))] := hD
      refine lv_bipush (v := 43) hx hb d_Num_findIn_34 (by decide) ?_
      refine lv_icmp_ne (tgt := 49) hx hb d_Num_findIn_36 (by decide) (fun c36 => ?_) (fun c36 => ?_)
      · have e36 : ¬ lk T (xE T n) (xA T n) = 43 := fun z => c36 (by rw [z]; rfl)
        have hxp2 : xP T n = xA T n := by unfold xP; rw [if_neg (fun z => z.elim e12 e36)]
        rw [← hxp2] at hP hD
        refine lv_aload_n hx hb d_Num_findIn_49 rfl (lv_at hl 0 rfl) ?_
        refine va_ldcS hx hb hown hE.2.2.2.2.2.1.1 d_Num_findIn_50 ?_
        refine ca_i [] (va_runV (As := [.ref (E.2.1 0)]) (rest := []) ⟨hx, hb, hml, hown, hts⟩ (c_Num_isRest l D E nm x cC T hT (bI (xM T n)) fo fr to po (xP T n) (xE T n) (xP_le T n) (hxe) 0 (by decide) H.size) (xV 1 hts kC_Num_isRest kM_Num_33 kI_Num_isRest kS_Num_isRest kN_Num rfl rfl (by decide +kernel) ⟨Nat.le_of_ble_eq_true rfl, Nat.le_of_ble_eq_true rfl⟩) ⟨ct_blind hev, va_recv hK hP (ci := 3) (q0 := 0) rfl rfl, ct_pre hev hP hK hD hS hA hE [0, 1] rfl (by decide) [0] rfl⟩ rfl rfl hl.1 rfl (lv_room (Nat.le_of_ble_eq_true rfl)) d_Num_findIn_52 ⟨Nat.le_of_ble_eq_true rfl, Nat.le_of_ble_eq_true rfl⟩) hP hD hS hA [0, 1] [] rfl rfl (by decide) (by decide) (fun rv u H locs hw hP hD hS hK1 => ?_)
        subst hw
        have hP : va_P D vcl [(nm, .inr (3, [.ref x, .int (nI (xP T n)), .int (nI (xE T n)), .int (bI (xM T n)), .int fo, .int fr, .int to, .int po])), (x, .inl (cC, 2400, .inl (tx T)))] H := hP
        have hD : va_D A [(nm, .inr (3, [.ref x, .int (nI (xP T n)), .int (nI (xE T n)), .int (bI (xM T n)), .int fo, .int fr, .int to, .int po])), (x, .inl (cC, 2400, .inl (tx T)))] := hD
        refine lv_if_eq (tgt := 65) hx hb d_Num_findIn_55 (by decide) (fun c55 => ?_) (fun c55 => ?_)
        · have e55 : wdB T (xE T n) (xP T n) 0 = false := (bI_0 _).mp c55
          refine lv_aload_n hx hb d_Num_findIn_65 rfl (lv_at hl 0 rfl) ?_
          refine va_ldcS hx hb hown hE.2.2.2.2.2.1.2 d_Num_findIn_66 ?_
          refine ca_i [] (va_runV (As := [.ref (E.2.1 1)]) (rest := []) ⟨hx, hb, hml, hown, hts⟩ (c_Num_isRest l D E nm x cC T hT (bI (xM T n)) fo fr to po (xP T n) (xE T n) (xP_le T n) (hxe) 1 (by decide) H.size) (xV 1 hts kC_Num_isRest kM_Num_33 kI_Num_isRest kS_Num_isRest kN_Num rfl rfl (by decide +kernel) ⟨Nat.le_of_ble_eq_true rfl, Nat.le_of_ble_eq_true rfl⟩) ⟨ct_blind hev, va_recv hK hP (ci := 3) (q0 := 0) rfl rfl, ct_pre hev hP hK hD hS hA hE [0, 1] rfl (by decide) [0] rfl⟩ rfl rfl hl.1 rfl (lv_room (Nat.le_of_ble_eq_true rfl)) d_Num_findIn_68 ⟨Nat.le_of_ble_eq_true rfl, Nat.le_of_ble_eq_true rfl⟩) hP hD hS hA [0, 1] [] rfl rfl (by decide) (by decide) (fun rv u H locs hw hP hD hS hK1 => ?_)
          subst hw
          have hP : va_P D vcl [(nm, .inr (3, [.ref x, .int (nI (xP T n)), .int (nI (xE T n)), .int (bI (xM T n)), .int fo, .int fr, .int to, .int po])), (x, .inl (cC, 2400, .inl (tx T)))] H := hP
          have hD : va_D A [(nm, .inr (3, [.ref x, .int (nI (xP T n)), .int (nI (xE T n)), .int (bI (xM T n)), .int fo, .int fr, .int to, .int po])), (x, .inl (cC, 2400, .inl (tx T)))] := hD
          refine lv_if_eq (tgt := 81) hx hb d_Num_findIn_71 (by decide) (fun c71 => ?_) (fun c71 => ?_)
          · have e71 : wdB T (xE T n) (xP T n) 1 = false := (bI_0 _).mp c71
            refine lv_aload_n hx hb d_Num_findIn_81 rfl (lv_at hl 0 rfl) ?_
            refine ca_i [] (va_runV (As := []) (rest := []) ⟨hx, hb, hml, hown, hts⟩ (c_Num_findLiteral l D E nm x cC T hT (bI (xM T n)) fo fr to po (xP T n) (xE T n) (xP_le T n) (hxe) H.size) (xV 0 hts kC_Num_findLiteral kM_Num_42 kI_Num_findLiteral kS_Num_findLiteral kN_Num rfl rfl (by decide +kernel) ⟨Nat.le_of_ble_eq_true rfl, Nat.le_of_ble_eq_true rfl⟩) ⟨ct_blind hev, va_recv hK hP (ci := 3) (q0 := 0) rfl rfl, ct_pre hev hP hK hD hS hA hE [0, 1] rfl (by decide) [0] rfl⟩ rfl rfl hl.1 rfl (lv_room (Nat.le_of_ble_eq_true rfl)) d_Num_findIn_82 ⟨Nat.le_of_ble_eq_true rfl, Nat.le_of_ble_eq_true rfl⟩) hP hD hS hA [0, 1] [] rfl rfl (by decide) (by decide) (fun rv u H locs hw hP hD hS hK1 => ?_)
            obtain ⟨ua, uf, ur, ut, up⟩ := u
            obtain ⟨hr1, hr2⟩ := hw
            have hr2 : litB T (xE T n) (xP T n) = true → uf = nI (if pxB T (xE T n) (xP T n) then 4 else 3) ∧ ur = nI (pxA T (xE T n) (xP T n)) ∧ ut = nI (lD T (xE T n) (xP T n)) ∧ up = zI (pPw 1000000 (pxB T (xE T n) (xP T n)) T (xE T n) (lD T (xE T n) (xP T n))) := hr2
            subst hr1
            have hP : va_P D vcl [(nm, .inr (3, [.ref x, .int ua, .int (nI (xE T n)), .int (bI (xM T n)), .int uf, .int ur, .int ut, .int up])), (x, .inl (cC, 2400, .inl (tx T)))] H := hP
            have hD : va_D A [(nm, .inr (3, [.ref x, .int ua, .int (nI (xE T n)), .int (bI (xM T n)), .int uf, .int ur, .int ut, .int up])), (x, .inl (cC, 2400, .inl (tx T)))] := hD
            exact rt_i hx hb hrt hlocks (by generalize litB T (xE T n) (xP T n) = b9; cases b9 <;> rfl) ((ua, nI (xE T n), bI (xM T n), uf, ur, ut, up)) (fin_lit e55 e71 hr2) (hP.sub [0, 1] rfl) (hK.sub [0] rfl) (hD.sub [0, 1] (by decide) rfl) hS d_Num_findIn_85
          · have e71 : wdB T (xE T n) (xP T n) 1 = true := tt_of (fun z => c71 ((bI_0 _).mpr z))
            refine lv_aload_n hx hb d_Num_findIn_74 rfl (lv_at hl 0 rfl) ?_
            refine lv_iconst (v := 2) hx hb d_Num_findIn_75 (by decide) ?_
            refine tv_i (nI 2) (rfl) ?_
            refine va_put (D := D) (ci := 3) (v := .int (nI 2)) (ty := .int) (C := R_Num) (T := F_Num) (N := 8) hx hb hts w_Num t_Num tk_Num n_Num hown hK hP hD hS 0 rfl rfl 4 (by decide) (hts _ kF_Num_37) (fun _ h9 => h9) rfl (by decide +kernel) (rfl) (rfl) (Nat.le_of_ble_eq_true rfl) d_Num_findIn_76 (fun H locs hP hD hS => ?_)
            have hP : va_P D vcl [(nm, .inr (3, [.ref x, .int (nI (xP T n)), .int (nI (xE T n)), .int (bI (xM T n)), .int (nI 2), .int fr, .int to, .int po])), (x, .inl (cC, 2400, .inl (tx T)))] H := hP
            have hD : va_D A [(nm, .inr (3, [.ref x, .int (nI (xP T n)), .int (nI (xE T n)), .int (bI (xM T n)), .int (nI 2), .int fr, .int to, .int po])), (x, .inl (cC, 2400, .inl (tx T)))] := hD
            refine lv_iconst (v := 1) hx hb d_Num_findIn_79 (by decide) ?_
            exact rt_i hx hb hrt hlocks (rfl) ((nI (xP T n), nI (xE T n), bI (xM T n), nI 2, fr, to, po)) (fin_2 e55 e71) (hP.sub [0, 1] rfl) (hK.sub [0] rfl) (hD.sub [0, 1] (by decide) rfl) hS d_Num_findIn_80
        · have e55 : wdB T (xE T n) (xP T n) 0 = true := tt_of (fun z => c55 ((bI_0 _).mpr z))
          refine lv_aload_n hx hb d_Num_findIn_58 rfl (lv_at hl 0 rfl) ?_
          refine lv_iconst (v := 1) hx hb d_Num_findIn_59 (by decide) ?_
          refine tv_i (nI 1) (rfl) ?_
          refine va_put (D := D) (ci := 3) (v := .int (nI 1)) (ty := .int) (C := R_Num) (T := F_Num) (N := 8) hx hb hts w_Num t_Num tk_Num n_Num hown hK hP hD hS 0 rfl rfl 4 (by decide) (hts _ kF_Num_37) (fun _ h9 => h9) rfl (by decide +kernel) (rfl) (rfl) (Nat.le_of_ble_eq_true rfl) d_Num_findIn_60 (fun H locs hP hD hS => ?_)
          have hP : va_P D vcl [(nm, .inr (3, [.ref x, .int (nI (xP T n)), .int (nI (xE T n)), .int (bI (xM T n)), .int (nI 1), .int fr, .int to, .int po])), (x, .inl (cC, 2400, .inl (tx T)))] H := hP
          have hD : va_D A [(nm, .inr (3, [.ref x, .int (nI (xP T n)), .int (nI (xE T n)), .int (bI (xM T n)), .int (nI 1), .int fr, .int to, .int po])), (x, .inl (cC, 2400, .inl (tx T)))] := hD
          refine lv_iconst (v := 1) hx hb d_Num_findIn_63 (by decide) ?_
          exact rt_i hx hb hrt hlocks (rfl) ((nI (xP T n), nI (xE T n), bI (xM T n), nI 1, fr, to, po)) (fin_1 e55) (hP.sub [0, 1] rfl) (hK.sub [0] rfl) (hD.sub [0, 1] (by decide) rfl) hS d_Num_findIn_64
      · have e36 : lk T (xE T n) (xA T n) = 43 := (nI_eq (b := 43) (by omega) (by decide)).mp c36
        refine lv_aload_n hx hb d_Num_findIn_39 rfl (lv_at hl 0 rfl) ?_
        refine lv_dup hx hb d_Num_findIn_40 rfl ?_
        refine va_get (D := D) (ci := 3) (v := .int (nI (xA T n))) (C := R_Num) (T := F_Num) (N := 8) hx hb hts w_Num hown hK hP 0 rfl rfl 1 (by decide) (hts _ kF_Num_27) (fun _ h9 => h9) rfl d_Num_findIn_41 ?_
        refine lv_iconst (v := 1) hx hb d_Num_findIn_44 (by decide) ?_
        refine lv_iadd hx hb d_Num_findIn_45 ?_
        refine tv_i (nI (xP T n)) (by rw [show xP T n = xA T n + 1 by unfold xP; rw [if_pos (Or.inr e36)]]; exact nI_1 _) ?_
        refine va_put (D := D) (ci := 3) (v := .int (nI (xP T n))) (ty := .int) (C := R_Num) (T := F_Num) (N := 8) hx hb hts w_Num t_Num tk_Num n_Num hown hK hP hD hS 0 rfl rfl 1 (by decide) (hts _ kF_Num_27) (fun _ h9 => h9) rfl (by decide +kernel) (rfl) (rfl) (Nat.le_of_ble_eq_true rfl) d_Num_findIn_46 (fun H locs hP hD hS => ?_)
        have hP : va_P D vcl [(nm, .inr (3, [.ref x, .int (nI (xP T n)), .int (nI (xE T n)), .int (bI (xM T n)), .int fo, .int fr, .int to, .int po])), (x, .inl (cC, 2400, .inl (tx T)))] H := hP
        have hD : va_D A [(nm, .inr (3, [.ref x, .int (nI (xP T n)), .int (nI (xE T n)), .int (bI (xM T n)), .int fo, .int fr, .int to, .int po])), (x, .inl (cC, 2400, .inl (tx T)))] := hD
        refine lv_aload_n hx hb d_Num_findIn_49 rfl (lv_at hl 0 rfl) ?_
        refine va_ldcS hx hb hown hE.2.2.2.2.2.1.1 d_Num_findIn_50 ?_
        refine ca_i [] (va_runV (As := [.ref (E.2.1 0)]) (rest := []) ⟨hx, hb, hml, hown, hts⟩ (c_Num_isRest l D E nm x cC T hT (bI (xM T n)) fo fr to po (xP T n) (xE T n) (xP_le T n) (hxe) 0 (by decide) H.size) (xV 1 hts kC_Num_isRest kM_Num_33 kI_Num_isRest kS_Num_isRest kN_Num rfl rfl (by decide +kernel) ⟨Nat.le_of_ble_eq_true rfl, Nat.le_of_ble_eq_true rfl⟩) ⟨ct_blind hev, va_recv hK hP (ci := 3) (q0 := 0) rfl rfl, ct_pre hev hP hK hD hS hA hE [0, 1] rfl (by decide) [0] rfl⟩ rfl rfl hl.1 rfl (lv_room (Nat.le_of_ble_eq_true rfl)) d_Num_findIn_52 ⟨Nat.le_of_ble_eq_true rfl, Nat.le_of_ble_eq_true rfl⟩) hP hD hS hA [0, 1] [] rfl rfl (by decide) (by decide) (fun rv u H locs hw hP hD hS hK1 => ?_)
        subst hw
        have hP : va_P D vcl [(nm, .inr (3, [.ref x, .int (nI (xP T n)), .int (nI (xE T n)), .int (bI (xM T n)), .int fo, .int fr, .int to, .int po])), (x, .inl (cC, 2400, .inl (tx T)))] H := hP
        have hD : va_D A [(nm, .inr (3, [.ref x, .int (nI (xP T n)), .int (nI (xE T n)), .int (bI (xM T n)), .int fo, .int fr, .int to, .int po])), (x, .inl (cC, 2400, .inl (tx T)))] := hD
        refine lv_if_eq (tgt := 65) hx hb d_Num_findIn_55 (by decide) (fun c55 => ?_) (fun c55 => ?_)
        · have e55 : wdB T (xE T n) (xP T n) 0 = false := (bI_0 _).mp c55
          refine lv_aload_n hx hb d_Num_findIn_65 rfl (lv_at hl 0 rfl) ?_
          refine va_ldcS hx hb hown hE.2.2.2.2.2.1.2 d_Num_findIn_66 ?_
          refine ca_i [] (va_runV (As := [.ref (E.2.1 1)]) (rest := []) ⟨hx, hb, hml, hown, hts⟩ (c_Num_isRest l D E nm x cC T hT (bI (xM T n)) fo fr to po (xP T n) (xE T n) (xP_le T n) (hxe) 1 (by decide) H.size) (xV 1 hts kC_Num_isRest kM_Num_33 kI_Num_isRest kS_Num_isRest kN_Num rfl rfl (by decide +kernel) ⟨Nat.le_of_ble_eq_true rfl, Nat.le_of_ble_eq_true rfl⟩) ⟨ct_blind hev, va_recv hK hP (ci := 3) (q0 := 0) rfl rfl, ct_pre hev hP hK hD hS hA hE [0, 1] rfl (by decide) [0] rfl⟩ rfl rfl hl.1 rfl (lv_room (Nat.le_of_ble_eq_true rfl)) d_Num_findIn_68 ⟨Nat.le_of_ble_eq_true rfl, Nat.le_of_ble_eq_true rfl⟩) hP hD hS hA [0, 1] [] rfl rfl (by decide) (by decide) (fun rv u H locs hw hP hD hS hK1 => ?_)
          subst hw
          have hP : va_P D vcl [(nm, .inr (3, [.ref x, .int (nI (xP T n)), .int (nI (xE T n)), .int (bI (xM T n)), .int fo, .int fr, .int to, .int po])), (x, .inl (cC, 2400, .inl (tx T)))] H := hP
          have hD : va_D A [(nm, .inr (3, [.ref x, .int (nI (xP T n)), .int (nI (xE T n)), .int (bI (xM T n)), .int fo, .int fr, .int to, .int po])), (x, .inl (cC, 2400, .inl (tx T)))] := hD
          refine lv_if_eq (tgt := 81) hx hb d_Num_findIn_71 (by decide) (fun c71 => ?_) (fun c71 => ?_)
          · have e71 : wdB T (xE T n) (xP T n) 1 = false := (bI_0 _).mp c71
            refine lv_aload_n hx hb d_Num_findIn_81 rfl (lv_at hl 0 rfl) ?_
            refine ca_i [] (va_runV (As := []) (rest := []) ⟨hx, hb, hml, hown, hts⟩ (c_Num_findLiteral l D E nm x cC T hT (bI (xM T n)) fo fr to po (xP T n) (xE T n) (xP_le T n) (hxe) H.size) (xV 0 hts kC_Num_findLiteral kM_Num_42 kI_Num_findLiteral kS_Num_findLiteral kN_Num rfl rfl (by decide +kernel) ⟨Nat.le_of_ble_eq_true rfl, Nat.le_of_ble_eq_true rfl⟩) ⟨ct_blind hev, va_recv hK hP (ci := 3) (q0 := 0) rfl rfl, ct_pre hev hP hK hD hS hA hE [0, 1] rfl (by decide) [0] rfl⟩ rfl rfl hl.1 rfl (lv_room (Nat.le_of_ble_eq_true rfl)) d_Num_findIn_82 ⟨Nat.le_of_ble_eq_true rfl, Nat.le_of_ble_eq_true rfl⟩) hP hD hS hA [0, 1] [] rfl rfl (by decide) (by decide) (fun rv u H locs hw hP hD hS hK1 => ?_)
            obtain ⟨ua, uf, ur, ut, up⟩ := u
            obtain ⟨hr1, hr2⟩ := hw
            have hr2 : litB T (xE T n) (xP T n) = true → uf = nI (if pxB T (xE T n) (xP T n) then 4 else 3) ∧ ur = nI (pxA T (xE T n) (xP T n)) ∧ ut = nI (lD T (xE T n) (xP T n)) ∧ up = zI (pPw 1000000 (pxB T (xE T n) (xP T n)) T (xE T n) (lD T (xE T n) (xP T n))) := hr2
            subst hr1
            have hP : va_P D vcl [(nm, .inr (3, [.ref x, .int ua, .int (nI (xE T n)), .int (bI (xM T n)), .int uf, .int ur, .int ut, .int up])), (x, .inl (cC, 2400, .inl (tx T)))] H := hP
            have hD : va_D A [(nm, .inr (3, [.ref x, .int ua, .int (nI (xE T n)), .int (bI (xM T n)), .int uf, .int ur, .int ut, .int up])), (x, .inl (cC, 2400, .inl (tx T)))] := hD
            exact rt_i hx hb hrt hlocks (by generalize litB T (xE T n) (xP T n) = b9; cases b9 <;> rfl) ((ua, nI (xE T n), bI (xM T n), uf, ur, ut, up)) (fin_lit e55 e71 hr2) (hP.sub [0, 1] rfl) (hK.sub [0] rfl) (hD.sub [0, 1] (by decide) rfl) hS d_Num_findIn_85
          · have e71 : wdB T (xE T n) (xP T n) 1 = true := tt_of (fun z => c71 ((bI_0 _).mpr z))
            refine lv_aload_n hx hb d_Num_findIn_74 rfl (lv_at hl 0 rfl) ?_
            refine lv_iconst (v := 2) hx hb d_Num_findIn_75 (by decide) ?_
            refine tv_i (nI 2) (rfl) ?_
            refine va_put (D := D) (ci := 3) (v := .int (nI 2)) (ty := .int) (C := R_Num) (T := F_Num) (N := 8) hx hb hts w_Num t_Num tk_Num n_Num hown hK hP hD hS 0 rfl rfl 4 (by decide) (hts _ kF_Num_37) (fun _ h9 => h9) rfl (by decide +kernel) (rfl) (rfl) (Nat.le_of_ble_eq_true rfl) d_Num_findIn_76 (fun H locs hP hD hS => ?_)
            have hP : va_P D vcl [(nm, .inr (3, [.ref x, .int (nI (xP T n)), .int (nI (xE T n)), .int (bI (xM T n)), .int (nI 2), .int fr, .int to, .int po])), (x, .inl (cC, 2400, .inl (tx T)))] H := hP
            have hD : va_D A [(nm, .inr (3, [.ref x, .int (nI (xP T n)), .int (nI (xE T n)), .int (bI (xM T n)), .int (nI 2), .int fr, .int to, .int po])), (x, .inl (cC, 2400, .inl (tx T)))] := hD
            refine lv_iconst (v := 1) hx hb d_Num_findIn_79 (by decide) ?_
            exact rt_i hx hb hrt hlocks (rfl) ((nI (xP T n), nI (xE T n), bI (xM T n), nI 2, fr, to, po)) (fin_2 e55 e71) (hP.sub [0, 1] rfl) (hK.sub [0] rfl) (hD.sub [0, 1] (by decide) rfl) hS d_Num_findIn_80
        · have e55 : wdB T (xE T n) (xP T n) 0 = true := tt_of (fun z => c55 ((bI_0 _).mpr z))
          refine lv_aload_n hx hb d_Num_findIn_58 rfl (lv_at hl 0 rfl) ?_
          refine lv_iconst (v := 1) hx hb d_Num_findIn_59 (by decide) ?_
          refine tv_i (nI 1) (rfl) ?_
          refine va_put (D := D) (ci := 3) (v := .int (nI 1)) (ty := .int) (C := R_Num) (T := F_Num) (N := 8) hx hb hts w_Num t_Num tk_Num n_Num hown hK hP hD hS 0 rfl rfl 4 (by decide) (hts _ kF_Num_37) (fun _ h9 => h9) rfl (by decide +kernel) (rfl) (rfl) (Nat.le_of_ble_eq_true rfl) d_Num_findIn_60 (fun H locs hP hD hS => ?_)
          have hP : va_P D vcl [(nm, .inr (3, [.ref x, .int (nI (xP T n)), .int (nI (xE T n)), .int (bI (xM T n)), .int (nI 1), .int fr, .int to, .int po])), (x, .inl (cC, 2400, .inl (tx T)))] H := hP
          have hD : va_D A [(nm, .inr (3, [.ref x, .int (nI (xP T n)), .int (nI (xE T n)), .int (bI (xM T n)), .int (nI 1), .int fr, .int to, .int po])), (x, .inl (cC, 2400, .inl (tx T)))] := hD
          refine lv_iconst (v := 1) hx hb d_Num_findIn_63 (by decide) ?_
          exact rt_i hx hb hrt hlocks (rfl) ((nI (xP T n), nI (xE T n), bI (xM T n), nI 1, fr, to, po)) (fin_1 e55) (hP.sub [0, 1] rfl) (hK.sub [0] rfl) (hD.sub [0, 1] (by decide) rfl) hS d_Num_findIn_64
  · have e12 : lk T (xE T n) (xA T n) = 45 := (nI_eq (b := 45) (by omega) (by decide)).mp c12
    refine lv_iconst (v := 1) hx hb d_Num_findIn_15 (by decide) ?_
    refine tv_i (bI (xM T n)) (by rw [show xM T n = true from decide_eq_true e12]; rfl) ?_
    refine lv_goto (tgt := 20) hx hb d_Num_findIn_16 (by decide) ?_
    refine va_put (D := D) (ci := 3) (v := .int (bI (xM T n))) (ty := .boolean) (C := R_Num) (T := F_Num) (N := 8) hx hb hts w_Num t_Num tk_Num n_Num hown hK hP hD hS 0 rfl rfl 3 (by decide) (hts _ kF_Num_23) (fun _ h9 => h9) rfl (by decide +kernel) (by cases xM T n <;> rfl) (by cases xM T n <;> rfl) (Nat.le_of_ble_eq_true rfl) d_Num_findIn_20 (fun H locs hP hD hS => ?_)
    have hP : va_P D vcl [(nm, .inr (3, [.ref x, .int (nI (xA T n)), .int (nI (xE T n)), .int (bI (xM T n)), .int fo, .int fr, .int to, .int po])), (x, .inl (cC, 2400, .inl (tx T)))] H := hP
    have hD : va_D A [(nm, .inr (3, [.ref x, .int (nI (xA T n)), .int (nI (xE T n)), .int (bI (xM T n)), .int fo, .int fr, .int to, .int po])), (x, .inl (cC, 2400, .inl (tx T)))] := hD
    refine lv_aload_n hx hb d_Num_findIn_23 rfl (lv_at hl 0 rfl) ?_
    refine va_get (D := D) (ci := 3) (v := .int (bI (xM T n))) (C := R_Num) (T := F_Num) (N := 8) hx hb hts w_Num hown hK hP 0 rfl rfl 3 (by decide) (hts _ kF_Num_23) (fun _ h9 => h9) rfl d_Num_findIn_24 ?_
    refine lv_if_ne (tgt := 39) hx hb d_Num_findIn_27 (by decide) (fun c27 => ?_) (fun c27 => ?_)
    · refine lv_aload_n hx hb d_Num_findIn_39 rfl (lv_at hl 0 rfl) ?_
      refine lv_dup hx hb d_Num_findIn_40 rfl ?_
      refine va_get (D := D) (ci := 3) (v := .int (nI (xA T n))) (C := R_Num) (T := F_Num) (N := 8) hx hb hts w_Num hown hK hP 0 rfl rfl 1 (by decide) (hts _ kF_Num_27) (fun _ h9 => h9) rfl d_Num_findIn_41 ?_
      refine lv_iconst (v := 1) hx hb d_Num_findIn_44 (by decide) ?_
      refine lv_iadd hx hb d_Num_findIn_45 ?_
      refine tv_i (nI (xP T n)) (by rw [show xP T n = xA T n + 1 by unfold xP; rw [if_pos (Or.inl e12)]]; exact nI_1 _) ?_
      refine va_put (D := D) (ci := 3) (v := .int (nI (xP T n))) (ty := .int) (C := R_Num) (T := F_Num) (N := 8) hx hb hts w_Num t_Num tk_Num n_Num hown hK hP hD hS 0 rfl rfl 1 (by decide) (hts _ kF_Num_27) (fun _ h9 => h9) rfl (by decide +kernel) (rfl) (rfl) (Nat.le_of_ble_eq_true rfl) d_Num_findIn_46 (fun H locs hP hD hS => ?_)
      have hP : va_P D vcl [(nm, .inr (3, [.ref x, .int (nI (xP T n)), .int (nI (xE T n)), .int (bI (xM T n)), .int fo, .int fr, .int to, .int po])), (x, .inl (cC, 2400, .inl (tx T)))] H := hP
      have hD : va_D A [(nm, .inr (3, [.ref x, .int (nI (xP T n)), .int (nI (xE T n)), .int (bI (xM T n)), .int fo, .int fr, .int to, .int po])), (x, .inl (cC, 2400, .inl (tx T)))] := hD
      refine lv_aload_n hx hb d_Num_findIn_49 rfl (lv_at hl 0 rfl) ?_
      refine va_ldcS hx hb hown hE.2.2.2.2.2.1.1 d_Num_findIn_50 ?_
      refine ca_i [] (va_runV (As := [.ref (E.2.1 0)]) (rest := []) ⟨hx, hb, hml, hown, hts⟩ (c_Num_isRest l D E nm x cC T hT (bI (xM T n)) fo fr to po (xP T n) (xE T n) (xP_le T n) (hxe) 0 (by decide) H.size) (xV 1 hts kC_Num_isRest kM_Num_33 kI_Num_isRest kS_Num_isRest kN_Num rfl rfl (by decide +kernel) ⟨Nat.le_of_ble_eq_true rfl, Nat.le_of_ble_eq_true rfl⟩) ⟨ct_blind hev, va_recv hK hP (ci := 3) (q0 := 0) rfl rfl, ct_pre hev hP hK hD hS hA hE [0, 1] rfl (by decide) [0] rfl⟩ rfl rfl hl.1 rfl (lv_room (Nat.le_of_ble_eq_true rfl)) d_Num_findIn_52 ⟨Nat.le_of_ble_eq_true rfl, Nat.le_of_ble_eq_true rfl⟩) hP hD hS hA [0, 1] [] rfl rfl (by decide) (by decide) (fun rv u H locs hw hP hD hS hK1 => ?_)
      subst hw
      have hP : va_P D vcl [(nm, .inr (3, [.ref x, .int (nI (xP T n)), .int (nI (xE T n)), .int (bI (xM T n)), .int fo, .int fr, .int to, .int po])), (x, .inl (cC, 2400, .inl (tx T)))] H := hP
      have hD : va_D A [(nm, .inr (3, [.ref x, .int (nI (xP T n)), .int (nI (xE T n)), .int (bI (xM T n)), .int fo, .int fr, .int to, .int po])), (x, .inl (cC, 2400, .inl (tx T)))] := hD
      refine lv_if_eq (tgt := 65) hx hb d_Num_findIn_55 (by decide) (fun c55 => ?_) (fun c55 => ?_)
      · have e55 : wdB T (xE T n) (xP T n) 0 = false := (bI_0 _).mp c55
        refine lv_aload_n hx hb d_Num_findIn_65 rfl (lv_at hl 0 rfl) ?_
        refine va_ldcS hx hb hown hE.2.2.2.2.2.1.2 d_Num_findIn_66 ?_
        refine ca_i [] (va_runV (As := [.ref (E.2.1 1)]) (rest := []) ⟨hx, hb, hml, hown, hts⟩ (c_Num_isRest l D E nm x cC T hT (bI (xM T n)) fo fr to po (xP T n) (xE T n) (xP_le T n) (hxe) 1 (by decide) H.size) (xV 1 hts kC_Num_isRest kM_Num_33 kI_Num_isRest kS_Num_isRest kN_Num rfl rfl (by decide +kernel) ⟨Nat.le_of_ble_eq_true rfl, Nat.le_of_ble_eq_true rfl⟩) ⟨ct_blind hev, va_recv hK hP (ci := 3) (q0 := 0) rfl rfl, ct_pre hev hP hK hD hS hA hE [0, 1] rfl (by decide) [0] rfl⟩ rfl rfl hl.1 rfl (lv_room (Nat.le_of_ble_eq_true rfl)) d_Num_findIn_68 ⟨Nat.le_of_ble_eq_true rfl, Nat.le_of_ble_eq_true rfl⟩) hP hD hS hA [0, 1] [] rfl rfl (by decide) (by decide) (fun rv u H locs hw hP hD hS hK1 => ?_)
        subst hw
        have hP : va_P D vcl [(nm, .inr (3, [.ref x, .int (nI (xP T n)), .int (nI (xE T n)), .int (bI (xM T n)), .int fo, .int fr, .int to, .int po])), (x, .inl (cC, 2400, .inl (tx T)))] H := hP
        have hD : va_D A [(nm, .inr (3, [.ref x, .int (nI (xP T n)), .int (nI (xE T n)), .int (bI (xM T n)), .int fo, .int fr, .int to, .int po])), (x, .inl (cC, 2400, .inl (tx T)))] := hD
        refine lv_if_eq (tgt := 81) hx hb d_Num_findIn_71 (by decide) (fun c71 => ?_) (fun c71 => ?_)
        · have e71 : wdB T (xE T n) (xP T n) 1 = false := (bI_0 _).mp c71
          refine lv_aload_n hx hb d_Num_findIn_81 rfl (lv_at hl 0 rfl) ?_
          refine ca_i [] (va_runV (As := []) (rest := []) ⟨hx, hb, hml, hown, hts⟩ (c_Num_findLiteral l D E nm x cC T hT (bI (xM T n)) fo fr to po (xP T n) (xE T n) (xP_le T n) (hxe) H.size) (xV 0 hts kC_Num_findLiteral kM_Num_42 kI_Num_findLiteral kS_Num_findLiteral kN_Num rfl rfl (by decide +kernel) ⟨Nat.le_of_ble_eq_true rfl, Nat.le_of_ble_eq_true rfl⟩) ⟨ct_blind hev, va_recv hK hP (ci := 3) (q0 := 0) rfl rfl, ct_pre hev hP hK hD hS hA hE [0, 1] rfl (by decide) [0] rfl⟩ rfl rfl hl.1 rfl (lv_room (Nat.le_of_ble_eq_true rfl)) d_Num_findIn_82 ⟨Nat.le_of_ble_eq_true rfl, Nat.le_of_ble_eq_true rfl⟩) hP hD hS hA [0, 1] [] rfl rfl (by decide) (by decide) (fun rv u H locs hw hP hD hS hK1 => ?_)
          obtain ⟨ua, uf, ur, ut, up⟩ := u
          obtain ⟨hr1, hr2⟩ := hw
          have hr2 : litB T (xE T n) (xP T n) = true → uf = nI (if pxB T (xE T n) (xP T n) then 4 else 3) ∧ ur = nI (pxA T (xE T n) (xP T n)) ∧ ut = nI (lD T (xE T n) (xP T n)) ∧ up = zI (pPw 1000000 (pxB T (xE T n) (xP T n)) T (xE T n) (lD T (xE T n) (xP T n))) := hr2
          subst hr1
          have hP : va_P D vcl [(nm, .inr (3, [.ref x, .int ua, .int (nI (xE T n)), .int (bI (xM T n)), .int uf, .int ur, .int ut, .int up])), (x, .inl (cC, 2400, .inl (tx T)))] H := hP
          have hD : va_D A [(nm, .inr (3, [.ref x, .int ua, .int (nI (xE T n)), .int (bI (xM T n)), .int uf, .int ur, .int ut, .int up])), (x, .inl (cC, 2400, .inl (tx T)))] := hD
          exact rt_i hx hb hrt hlocks (by generalize litB T (xE T n) (xP T n) = b9; cases b9 <;> rfl) ((ua, nI (xE T n), bI (xM T n), uf, ur, ut, up)) (fin_lit e55 e71 hr2) (hP.sub [0, 1] rfl) (hK.sub [0] rfl) (hD.sub [0, 1] (by decide) rfl) hS d_Num_findIn_85
        · have e71 : wdB T (xE T n) (xP T n) 1 = true := tt_of (fun z => c71 ((bI_0 _).mpr z))
          refine lv_aload_n hx hb d_Num_findIn_74 rfl (lv_at hl 0 rfl) ?_
          refine lv_iconst (v := 2) hx hb d_Num_findIn_75 (by decide) ?_
          refine tv_i (nI 2) (rfl) ?_
          refine va_put (D := D) (ci := 3) (v := .int (nI 2)) (ty := .int) (C := R_Num) (T := F_Num) (N := 8) hx hb hts w_Num t_Num tk_Num n_Num hown hK hP hD hS 0 rfl rfl 4 (by decide) (hts _ kF_Num_37) (fun _ h9 => h9) rfl (by decide +kernel) (rfl) (rfl) (Nat.le_of_ble_eq_true rfl) d_Num_findIn_76 (fun H locs hP hD hS => ?_)
          have hP : va_P D vcl [(nm, .inr (3, [.ref x, .int (nI (xP T n)), .int (nI (xE T n)), .int (bI (xM T n)), .int (nI 2), .int fr, .int to, .int po])), (x, .inl (cC, 2400, .inl (tx T)))] H := hP
          have hD : va_D A [(nm, .inr (3, [.ref x, .int (nI (xP T n)), .int (nI (xE T n)), .int (bI (xM T n)), .int (nI 2), .int fr, .int to, .int po])), (x, .inl (cC, 2400, .inl (tx T)))] := hD
          refine lv_iconst (v := 1) hx hb d_Num_findIn_79 (by decide) ?_
          exact rt_i hx hb hrt hlocks (rfl) ((nI (xP T n), nI (xE T n), bI (xM T n), nI 2, fr, to, po)) (fin_2 e55 e71) (hP.sub [0, 1] rfl) (hK.sub [0] rfl) (hD.sub [0, 1] (by decide) rfl) hS d_Num_findIn_80
      · have e55 : wdB T (xE T n) (xP T n) 0 = true := tt_of (fun z => c55 ((bI_0 _).mpr z))
        refine lv_aload_n hx hb d_Num_findIn_58 rfl (lv_at hl 0 rfl) ?_
        refine lv_iconst (v := 1) hx hb d_Num_findIn_59 (by decide) ?_
        refine tv_i (nI 1) (rfl) ?_
        refine va_put (D := D) (ci := 3) (v := .int (nI 1)) (ty := .int) (C := R_Num) (T := F_Num) (N := 8) hx hb hts w_Num t_Num tk_Num n_Num hown hK hP hD hS 0 rfl rfl 4 (by decide) (hts _ kF_Num_37) (fun _ h9 => h9) rfl (by decide +kernel) (rfl) (rfl) (Nat.le_of_ble_eq_true rfl) d_Num_findIn_60 (fun H locs hP hD hS => ?_)
        have hP : va_P D vcl [(nm, .inr (3, [.ref x, .int (nI (xP T n)), .int (nI (xE T n)), .int (bI (xM T n)), .int (nI 1), .int fr, .int to, .int po])), (x, .inl (cC, 2400, .inl (tx T)))] H := hP
        have hD : va_D A [(nm, .inr (3, [.ref x, .int (nI (xP T n)), .int (nI (xE T n)), .int (bI (xM T n)), .int (nI 1), .int fr, .int to, .int po])), (x, .inl (cC, 2400, .inl (tx T)))] := hD
        refine lv_iconst (v := 1) hx hb d_Num_findIn_63 (by decide) ?_
        exact rt_i hx hb hrt hlocks (rfl) ((nI (xP T n), nI (xE T n), bI (xM T n), nI 1, fr, to, po)) (fin_1 e55) (hP.sub [0, 1] rfl) (hK.sub [0] rfl) (hD.sub [0, 1] (by decide) rfl) hS d_Num_findIn_64
    · exact absurd ((bI_0 _).mp c27) (by rw [show xM T n = true from decide_eq_true e12]; decide)
