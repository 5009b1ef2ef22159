/-! THE SURROUNDINGS: the links within the nest, the two kinds, the two words; and calls by the tables' words -/
abbrev evD : Type := (Nat → Nat) × (Nat → Nat) × (Nat → Nat)
def kF : List (String × String × String × List Int32) := [(R_Kin, "precision", "I", [53, 24]), (R_Kin, "lowestUnit", "I", [-1074, -149]), (R_Kin, "highestUnit", "I", [971, 104]), (R_Kin, "mostDigits", "I", [770, 115]), (R_Kin, "lowestPlace", "I", [-323, -45]), (R_Kin, "highestPlace", "I", [309, 39])]
def kSign : Nat → Int64 := fun i => if i = 0 then -9223372036854775808 else 2147483648
def kInf : Nat → Int64 := fun i => if i = 0 then 9218868437227405312 else 2139095040
def kNon : Nat → Int64 := fun i => if i = 0 then 9221120237041090560 else 2143289344
def sLen : List Nat := [3, 8]
def sByt : List (List Int32) := [[78, 97, 78], [73, 110, 102, 105, 110, 105, 116, 121]]
def ev1 (E : evD) (A : Nat → Prop) (U : State) (H : Heap) : Prop :=
  (va_Nw (.methodLinkNest R_Num 89 y_Rea_digitOf R_Rea) U ∧ va_Nw (.methodLinkNest R_Kin 66 y_Rea_bitLengthOf R_Rea) U ∧ va_Nw (.methodLinkNest R_Big 22 y_Rea_bitLengthOf R_Rea) U) ∧
  va_En R_Kin "LNearestReader$Kind;" ["WIDE", "NARROW"] kF E.1 A U H ∧ va_Ef 2 R_Kin "signBit" "J" (fun i => .long (kSign i)) E.1 A U H ∧ va_Ef 2 R_Kin "infinite" "J" (fun i => .long (kInf i)) E.1 A U H ∧ va_Ef 2 R_Kin "none" "J" (fun i => .long (kNon i)) E.1 A U H ∧
  (vk_R R_Num 31 "NaN" (E.2.1 0) U ∧ vk_R R_Num 40 "Infinity" (E.2.1 1) U) ∧ vk_S 2 sLen sByt E.2.1 E.2.2 A U H ∧ va_Z R_Str "COMPACT_STRINGS" "Z" (.int 1) A U H ∧
  ∃ v : Value, (v = .null ∨ ∃ a, v = .ref a) ∧ va_Z R_Pre "SIOOBE_FORMATTER" "Ljava/util/function/BiFunction;" v A U H
theorem ev1_ok (E : evD) : evOK (ev1 E) := by
  refine ⟨fun A B s U H H1 h hq hW hAB => ?_, fun A U g mk a h => ?_⟩
  · obtain ⟨⟨n1, n2, n3⟩, e1, f1, f2, f3, ⟨r1, r2⟩, s1, z1, zv, zo, z2⟩ := h
    exact ⟨⟨n1.warmM hW, n2.warmM hW, n3.warmM hW⟩, ((e1.kept hq).moved hW.alike).narrow hAB, ((f1.kept hq).moved hW.alike).narrow hAB, ((f2.kept hq).moved hW.alike).narrow hAB, ((f3.kept hq).moved hW.alike).narrow hAB, ⟨r1.warm hW, r2.warm hW⟩, ((s1.kept hq).moved hW.alike).narrow hAB, ((z1.kept hq).moved hW.alike).narrow hAB, zv, zo, ((z2.kept hq).moved hW.alike).narrow hAB⟩
  · obtain ⟨⟨n1, n2, n3⟩, e1, f1, f2, f3, ⟨r1, r2⟩, s1, z1, zv, zo, z2⟩ := h
    have hv : U.vm.Alike (U.calling g mk a).vm := Vm.Alike.refl U.vm
    exact ⟨⟨va_Nw.same rfl rfl n1, va_Nw.same rfl rfl n2, va_Nw.same rfl rfl n3⟩, va_En.moved (u := U) hv e1, va_Ef.moved (u := U) hv f1, va_Ef.moved (u := U) hv f2, va_Ef.moved (u := U) hv f3, ⟨vk_R.same (u := U) rfl r1, vk_R.same (u := U) rfl r2⟩, vk_S.moved (u := U) hv s1, va_Z.moved (u := U) hv z1, zv, zo, va_Z.moved (u := U) hv z2⟩
section XC
variable {R : Room} {s : State} {args : Array Value} {own C host : String} {index maxL mc ms : Nat} {y : MethodName} {bytes : ByteArray} {ret : Option FieldType} {rm : Room}
theorem xV (n : Nat) (hg : ∀ w ∈ gws, w.before args s = true) (hc : Cond.code y bytes maxL ret ∈ gws) (hl : Cond.methodLink own index y ∈ gws) (hi : Cond.instanceMethod y ∈ gws) (hs : Cond.selects C y y ∈ gws) (hn : Cond.initialized y.cls ∈ gws) (hrc : rm.cells = mc) (hrs : rm.slots = ms)
    (hd : y.cls ≠ "java/lang/invoke/MethodHandle" ∧ y.cls ≠ "java/lang/invoke/VarHandle" ∧ (parseMethodDescriptor y.desc).map (fun d => d.parameters.length) = some n) (hR : rm.frames + 1 ≤ R.frames ∧ 8 + (maxL + 11) + rm.locals ≤ R.locals) : CallW R s args own C index y bytes maxL ret (wz y bytes maxL ret) rm mc ms n :=
  ⟨callB_of n hg (wz_good hc) rfl hrc hrs (hg _ hn) (hg _ hl) hd hR, hg _ hi, hg _ hs⟩
theorem xS (n : Nat) (hg : ∀ w ∈ gws, w.before args s = true) (hc : Cond.code y bytes maxL ret ∈ gws) (hl : Cond.methodLink own index y ∈ gws) (hi : Cond.static y ∈ gws) (hn : Cond.initialized y.cls ∈ gws) (hrc : rm.cells = mc) (hrs : rm.slots = ms)
    (hd : y.cls ≠ "java/lang/invoke/MethodHandle" ∧ y.cls ≠ "java/lang/invoke/VarHandle" ∧ (parseMethodDescriptor y.desc).map (fun d => d.parameters.length) = some n) (hR : rm.frames + 1 ≤ R.frames ∧ 8 + (maxL + 11) + rm.locals ≤ R.locals) : CallB R s args own index y bytes maxL ret (wz y bytes maxL ret) rm mc ms n ∧ (Cond.static y).before args s = true :=
  ⟨callB_of n hg (wz_good hc) rfl hrc hrs (hg _ hn) (hg _ hl) hd hR, hg _ hi⟩
theorem xI (n : Nat) (hg : ∀ w ∈ gws, w.before args s = true) (hc : Cond.code y bytes maxL none ∈ gws) (hl : Cond.methodLink own index y ∈ gws) (hi : Cond.instanceMethod y ∈ gws) (hn : Cond.initialized y.cls ∈ gws) (hy : y.name = "<init>") (hrc : rm.cells = mc) (hrs : rm.slots = ms)
    (hd : y.cls ≠ "java/lang/invoke/MethodHandle" ∧ y.cls ≠ "java/lang/invoke/VarHandle" ∧ (parseMethodDescriptor y.desc).map (fun d => d.parameters.length) = some n) (hR : rm.frames + 1 ≤ R.frames ∧ 8 + (maxL + 11) + rm.locals ≤ R.locals) : CallB R s args own index y bytes maxL none (wz y bytes maxL none) rm mc ms n ∧ y.name = "<init>" ∧ (Cond.instanceMethod y).before args s = true :=
  ⟨callB_of n hg (wz_good hc) rfl hrc hrs (hg _ hn) (hg _ hl) hd hR, hy, hg _ hi⟩
theorem xSN (n : Nat) (hg : ∀ w ∈ gws, w.before args s = true) (hc : Cond.code y bytes maxL ret ∈ gws) (hl : va_Nw (.methodLinkNest own index y host) s) (hi : Cond.static y ∈ gws) (hn : Cond.initialized y.cls ∈ gws) (hrc : rm.cells = mc) (hrs : rm.slots = ms)
    (hd : y.cls ≠ "java/lang/invoke/MethodHandle" ∧ y.cls ≠ "java/lang/invoke/VarHandle" ∧ (parseMethodDescriptor y.desc).map (fun d => d.parameters.length) = some n) (hR : rm.frames + 1 ≤ R.frames ∧ 8 + (maxL + 11) + rm.locals ≤ R.locals) : va_CN R s args own index y host bytes maxL ret (wz y bytes maxL ret) rm mc ms n ∧ (Cond.static y).before args s = true ∧ True :=
  ⟨va_cnB n hg (wz_good hc) rfl hrc hrs hl (hg _ hn) hd hR, hg _ hi, trivial⟩
theorem wz_g {args : Array Value} {s : State} {y : MethodName} {b : ByteArray} {n : Nat} {r : Option FieldType} (h : ∀ w ∈ wz y b n r, w.before args s = true) : ∀ w ∈ gws, w.before args s = true := fun w hw => h w (List.mem_cons_of_mem _ hw)
end XC
