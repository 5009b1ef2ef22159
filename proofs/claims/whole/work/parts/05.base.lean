/-! CONTRACTS IN ONE FORM: arguments, cells, array classes, surroundings (ev); their start, their ends, and a call of them -/
/-- the surroundings may be handed on to a callee, and don't see frames -/
def evOK (ev : (Nat → Prop) → State → Heap → Prop) : Prop :=
  (∀ (A B : Nat → Prop) (s U : State) (H H1 : Heap), ev A s H → (∀ a : Nat, a < H.size → ¬ A a → H1[a]? = H[a]?) → s.WarmedH U.vm → (∀ q, B q → A q) → ev B U H1) ∧ ∀ (A : Nat → Prop) (U : State) (g : JFrame) (mk : MethodId) (a : Array Value), ev A U U.heap → ev A (U.calling g mk a) (U.calling g mk a).heap
def ctP (D : va_G) (cl : List vw_C) (ev : (Nat → Prop) → State → Heap → Prop) (tys : List (ClassId × FieldType)) (cs : va_W) (sz : Nat) (U : State) : Prop :=
  U.heap.size = sz ∧ va_P D cl cs U.heap ∧ va_K D cl tys U ∧ va_D (fun _ => True) cs ∧ ev (va_A cs sz) U U.heap
def ctB (D : va_G) (cl : List vw_C) (tys : List (ClassId × FieldType)) (cs : va_W) (A : Nat → Prop) (t : State) : Prop :=
  va_P D cl cs t.heap ∧ va_K D cl tys t ∧ va_D A cs
def Cv {S : Type} (l : Launch) (y : MethodName) (ws : List Cond) (rm : Room) (D : va_G) (cl : List vw_C) (ev : (Nat → Prop) → State → Heap → Prop) (av : List Value) (tys : List (ClassId × FieldType)) (cs : va_W) (mc ms : Nat) (post : S → Prop) (tys' : S → List (ClassId × FieldType)) (cs' : S → va_W) : Prop :=
  ∀ sz : Nat, Met l y ws rm (va_Pc av (ctP D cl ev tys cs sz)) (va_Qv post (fun u t => ctB D cl (tys' u) (cs' u) (va_A cs sz) t) (va_A cs sz)) mc ms (va_A cs sz)
def Ci {S : Type} (l : Launch) (y : MethodName) (ws : List Cond) (rm : Room) (D : va_G) (cl : List vw_C) (ev : (Nat → Prop) → State → Heap → Prop) (av : List Value) (tys : List (ClassId × FieldType)) (cs : va_W) (mc ms : Nat) (post : Int32 → S → Prop) (tys' : S → List (ClassId × FieldType)) (cs' : S → va_W) : Prop :=
  ∀ sz : Nat, Met l y ws rm (va_Pc av (ctP D cl ev tys cs sz)) (va_Qi post (fun u t => ctB D cl (tys' u) (cs' u) (va_A cs sz) t) (va_A cs sz)) mc ms (va_A cs sz)
def Cl {S : Type} (l : Launch) (y : MethodName) (ws : List Cond) (rm : Room) (D : va_G) (cl : List vw_C) (ev : (Nat → Prop) → State → Heap → Prop) (av : List Value) (tys : List (ClassId × FieldType)) (cs : va_W) (mc ms : Nat) (post : Int64 → S → Prop) (tys' : S → List (ClassId × FieldType)) (cs' : S → va_W) : Prop :=
  ∀ sz : Nat, Met l y ws rm (va_Pc av (ctP D cl ev tys cs sz)) (va_Ql post (fun u t => ctB D cl (tys' u) (cs' u) (va_A cs sz) t) (va_A cs sz)) mc ms (va_A cs sz)
section CT
variable {p : Program} {l : Launch} {e : Env} {R : Room} {s : State} {m : MethodId} {args : Array Value} {below : List Frame} {meth : Method} {c : Code} {H : Heap} {locs : List Loc} {cells slots : Nat} {Q : State → Prop}
variable {cc : ByteArray} {pc : Nat} {ls : Array Slot} {rest st0 : List Value} {D : va_G} {cl : List vw_C} {A : Nat → Prop} {tys : List (ClassId × FieldType)} {ws : va_W} {ev : (Nat → Prop) → State → Heap → Prop}
theorem tv_i {x : Int32} (v : Int32) (h : x = v) (k : W p l e R s m args below meth c H locs cells slots Q (F0 m pc ls (.int v :: rest))) : W p l e R s m args below meth c H locs cells slots Q (F0 m pc ls (.int x :: rest)) := by
  subst h; exact k
theorem tv_l {x : Int64} (v : Int64) (h : x = v) (k : W p l e R s m args below meth c H locs cells slots Q (F0 m pc ls (.long v :: rest))) : W p l e R s m args below meth c H locs cells slots Q (F0 m pc ls (.long x :: rest)) := by
  subst h; exact k
theorem ct_blind {av : List Value} {cs : va_W} {sz : Nat} (hev : evOK ev) : FrameBlind (va_Pc av (ctP D cl ev tys cs sz)) := by
  intro a U g mk q
  obtain ⟨q0, q1, qP, qK, qD, qE⟩ := q
  exact ⟨q0, q1, qP, va_K.moved (u := U) (U := U.calling g mk a) (Vm.Alike.refl U.vm) qK, qD, hev.2 _ _ _ _ _ qE⟩
theorem ct_pre {av : List Value} {tysC : List (ClassId × FieldType)} {cs : va_W} (hev : evOK ev) (hP : va_P D cl ws H) (hK : va_K D cl tys s) (hD : va_D A ws) (hS : va_S A s.heap H locs) (hA : ∀ q : Nat, s.heap.size ≤ q → A q) (hE : ev A s s.heap) (isC : List Nat) (hC : isC.map (fun i => ws[i]?) = cs.map some) (hn : va_nd isC = true) (ity : List Nat) (hty : ity.filterMap (fun i => tys[i]?) = tysC) :
    ∀ U : State, U.heap = H → s.WarmedH U.vm → va_Pc av (ctP D cl ev tysC cs H.size) av.toArray U := by
  intro U hU hW
  have hPc : va_P D cl cs H := by
    intro k q hk
    have h1 : (isC.map (fun i => ws[i]?))[k]? = some (some q) := by rw [hC, List.getElem?_map, hk]; rfl
    rw [List.getElem?_map] at h1
    cases hi : isC[k]? with
    | none => rw [hi] at h1; cases h1
    | some i => rw [hi] at h1; exact hP i q (Option.some.inj h1)
  refine ⟨rfl, by rw [hU], by rw [hU]; exact hPc, va_K.moved hW.alike (hK.sub ity hty), (hD.sub isC hn hC).weaken (fun _ _ _ _ => trivial), ?_⟩
  exact hev.1 A _ s U s.heap U.heap hE (fun a h1 h2 => by rw [hU]; exact hS.2.1 a h1 h2) hW (va_free (wc := cs) hD hS hA isC hC)
theorem ct_of {y : MethodName} {wds wds' : List Cond} {rm : Room} {maxL : Nat} {ret : Option FieldType} {av : List Value} {cs : va_W} {mc ms : Nat} {Qc : (Nat → Prop) → Array Value → State → Outcome → State → Prop}
    (hy : plainName y.cls = true) (hw : wds = Cond.code y cc maxL ret :: wds') (hlen : (lg_sl av).length ≤ maxL)
    (body : ∀ (p : Program) (e : Env) (s : State) (m : MethodId) (below : List Frame) (meth : Method) (c : Code) (ls : Array Slot) (A : Nat → Prop) (H : Heap) (locs : List Loc), p.tables.exec = Jvm.exec → c.code = cc → c.maxLocals = maxL → meth.sig.returnType = ret → meth.locks = false → s.vm.findClass y.cls = some m.cls → meth.name = y.name → (∀ w ∈ wds, w.before av.toArray s = true) → (∀ q : Nat, s.heap.size ≤ q → A q) → va_P D cl cs H → va_K D cl tys s → va_D A cs → va_S A s.heap H locs → ev A s s.heap → lv_has ls maxL (lv_args 0 av) →
      W p l e rm s m av.toArray below meth c H locs 0 0 (MQ below (Qc A) av.toArray s mc ms A) (F0 m 0 ls [])) :
    ∀ sz : Nat, Met l y wds rm (va_Pc av (ctP D cl ev tys cs sz)) (Qc (va_A cs sz)) mc ms (va_A cs sz) := by
  intro sz
  refine Met.ofW (cc := cc) (maxL := maxL) (ret := ret) hy hw ?_
  intro p e s m args below meth c s₁ B hml hv
  obtain ⟨rfl, hsz, hP, hK, hD0, hE⟩ := hv
  subst hsz
  have hl := lv_entry av (n := maxL) hlen
  rw [lg_entry_eq]
  generalize (lg_sl av ++ List.replicate (maxL - (lg_sl av).length) Slot.unset).toArray = ls at hl ⊢
  exact body p e s m below meth c ls (va_A cs s.heap.size) s.heap [] B.exec B.bytes hml B.returns B.notSynchronized (findClass_of_methodNamed B.named) (name_of_methodNamed B.named B.method).1 (atoms_spec (ws := wds) B.pre) (fun q h => Or.inr h) hP hK (hD0.self (sz := s.heap.size)) va_S.rf hE hl
theorem rt_v {S : Type} {post : S → Prop} {tys' : S → List (ClassId × FieldType)} {cs' : S → va_W} (hx : p.tables.exec = Jvm.exec) (hb : c.code = cc) (hr : meth.sig.returnType = none) (hlocks : meth.locks = false) (u : S) (hp : post u) (hP : va_P D cl (cs' u) H) (hK : va_K D cl (tys' u) s) (hD : va_D A (cs' u)) (hS : va_S A s.heap H locs) (hdg : decode cc pc = .ok (.return_, 1)) :
    W p l e R s m args below meth c H locs cells slots (MQ below (va_Qv post (fun u t => ctB D cl (tys' u) (cs' u) A t) A) args s cells slots A) (F0 m pc ls []) :=
  W.vret hx hb hr (fun t ht hW => ⟨⟨u, rfl, hp, by rw [ht]; exact hP, va_K.moved hW.alike hK, hD⟩, hS.F ht⟩) hS.2.2 hdg hlocks
theorem rt_i {S : Type} {post : Int32 → S → Prop} {tys' : S → List (ClassId × FieldType)} {cs' : S → va_W} {v : Int32} {ty : FieldType} (hx : p.tables.exec = Jvm.exec) (hb : c.code = cc) (hr : meth.sig.returnType = some ty) (hlocks : meth.locks = false) (hn : narrow ty (.int v) = .int v) (u : S) (hp : post v u) (hP : va_P D cl (cs' u) H) (hK : va_K D cl (tys' u) s) (hD : va_D A (cs' u)) (hS : va_S A s.heap H locs) (hdg : decode cc pc = .ok (.ireturn, 1)) :
    W p l e R s m args below meth c H locs cells slots (MQ below (va_Qi post (fun u t => ctB D cl (tys' u) (cs' u) A t) A) args s cells slots A) (F0 m pc ls [.int v]) :=
  W.zret hx hb hr hn (fun t ht hW => ⟨⟨v, u, rfl, hp, by rw [ht]; exact hP, va_K.moved hW.alike hK, hD⟩, hS.F ht⟩) hS.2.2 hdg hlocks
theorem rt_l {S : Type} {post : Int64 → S → Prop} {tys' : S → List (ClassId × FieldType)} {cs' : S → va_W} {v : Int64} (hx : p.tables.exec = Jvm.exec) (hb : c.code = cc) (hr : meth.sig.returnType = some .long) (hlocks : meth.locks = false) (u : S) (hp : post v u) (hP : va_P D cl (cs' u) H) (hK : va_K D cl (tys' u) s) (hD : va_D A (cs' u)) (hS : va_S A s.heap H locs) (hdg : decode cc pc = .ok (.lreturn, 1)) :
    W p l e R s m args below meth c H locs cells slots (MQ below (va_Ql post (fun u t => ctB D cl (tys' u) (cs' u) A t) A) args s cells slots A) (F0 m pc ls [.long v]) :=
  W.lret hx hb hr (fun t ht hW => ⟨⟨v, u, rfl, hp, by rw [ht]; exact hP, va_K.moved hW.alike hK, hD⟩, hS.F ht⟩) hS.2.2 hdg hlocks
variable {a : Array Value} {mc ms : Nat} {wc : va_W}
theorem ca_v {S : Type} {post : S → Prop} {tys' : S → List (ClassId × FieldType)} {cs' : S → va_W} (wr : va_W) (hr : va_Run p l e R s m args below meth c H locs cells slots mc ms (F0 m pc ls st0) rest (va_Qv post (fun u t => ctB D cl (tys' u) (cs' u) (va_A wc H.size) t) (va_A wc H.size) a) (va_A wc H.size)) (hP : va_P D cl ws H) (hD : va_D A ws) (hS : va_S A s.heap H locs) (hA : ∀ q : Nat, s.heap.size ≤ q → A q)
    (isC isR : List Nat) (hC : isC.map (fun i => ws[i]?) = wc.map some) (hR : isR.map (fun i => ws[i]?) = wr.map some) (hn : va_nd isR = true) (hdis : ∀ i ∈ isR, i ∉ isC)
    (kk : ∀ (u : S) (H1 : Heap) (locs1 : List Loc), post u → va_P D cl (wr ++ cs' u) H1 → va_D A (wr ++ cs' u) → va_S A s.heap H1 locs1 → va_K D cl (tys' u) s → W p l e R s m args below meth c H1 locs1 (cells + mc) (slots + ms) Q (F0 m (pc + 3) ls rest)) : W p l e R s m args below meth c H locs cells slots Q (F0 m pc ls st0) := by
  have hF := va_free (wc := wc) hD hS hA isC hC
  refine va_callv hr hS (fun q _ h => hF q h) hF (fun u t H1 locs1 ht hvm hw hB hz1 hk1 hS1 => ?_)
  obtain ⟨hP1, hK1, hD1⟩ := hB
  rw [ht] at hP1
  obtain ⟨hP2, hD2⟩ := va_join (wr := wr) (w1 := cs' u) hP hD isC isR hC hR hn hdis hk1 hF hP1 hD1
  exact kk u H1 locs1 hw hP2 hD2 hS1 (va_K.moved hvm.symm hK1)
theorem ca_i {S : Type} {post : Int32 → S → Prop} {tys' : S → List (ClassId × FieldType)} {cs' : S → va_W} (wr : va_W) (hr : va_Run p l e R s m args below meth c H locs cells slots mc ms (F0 m pc ls st0) rest (va_Qi post (fun u t => ctB D cl (tys' u) (cs' u) (va_A wc H.size) t) (va_A wc H.size) a) (va_A wc H.size)) (hP : va_P D cl ws H) (hD : va_D A ws) (hS : va_S A s.heap H locs) (hA : ∀ q : Nat, s.heap.size ≤ q → A q)
    (isC isR : List Nat) (hC : isC.map (fun i => ws[i]?) = wc.map some) (hR : isR.map (fun i => ws[i]?) = wr.map some) (hn : va_nd isR = true) (hdis : ∀ i ∈ isR, i ∉ isC)
    (kk : ∀ (r : Int32) (u : S) (H1 : Heap) (locs1 : List Loc), post r u → va_P D cl (wr ++ cs' u) H1 → va_D A (wr ++ cs' u) → va_S A s.heap H1 locs1 → va_K D cl (tys' u) s → W p l e R s m args below meth c H1 locs1 (cells + mc) (slots + ms) Q (F0 m (pc + 3) ls (.int r :: rest))) : W p l e R s m args below meth c H locs cells slots Q (F0 m pc ls st0) := by
  have hF := va_free (wc := wc) hD hS hA isC hC
  refine va_calli hr hS (fun q _ h => hF q h) hF (fun r u t H1 locs1 ht hvm hw hB hz1 hk1 hS1 => ?_)
  obtain ⟨hP1, hK1, hD1⟩ := hB
  rw [ht] at hP1
  obtain ⟨hP2, hD2⟩ := va_join (wr := wr) (w1 := cs' u) hP hD isC isR hC hR hn hdis hk1 hF hP1 hD1
  exact kk r u H1 locs1 hw hP2 hD2 hS1 (va_K.moved hvm.symm hK1)
theorem ca_l {S : Type} {post : Int64 → S → Prop} {tys' : S → List (ClassId × FieldType)} {cs' : S → va_W} (wr : va_W) (hr : va_Run p l e R s m args below meth c H locs cells slots mc ms (F0 m pc ls st0) rest (va_Ql post (fun u t => ctB D cl (tys' u) (cs' u) (va_A wc H.size) t) (va_A wc H.size) a) (va_A wc H.size)) (hP : va_P D cl ws H) (hD : va_D A ws) (hS : va_S A s.heap H locs) (hA : ∀ q : Nat, s.heap.size ≤ q → A q)
    (isC isR : List Nat) (hC : isC.map (fun i => ws[i]?) = wc.map some) (hR : isR.map (fun i => ws[i]?) = wr.map some) (hn : va_nd isR = true) (hdis : ∀ i ∈ isR, i ∉ isC)
    (kk : ∀ (r : Int64) (u : S) (H1 : Heap) (locs1 : List Loc), post r u → va_P D cl (wr ++ cs' u) H1 → va_D A (wr ++ cs' u) → va_S A s.heap H1 locs1 → va_K D cl (tys' u) s → W p l e R s m args below meth c H1 locs1 (cells + mc) (slots + ms) Q (F0 m (pc + 3) ls (.long r :: rest))) : W p l e R s m args below meth c H locs cells slots Q (F0 m pc ls st0) := by
  have hF := va_free (wc := wc) hD hS hA isC hC
  refine va_calll hr hS (fun q _ h => hF q h) hF (fun r u t H1 locs1 ht hvm hw hB hz1 hk1 hS1 => ?_)
  obtain ⟨hP1, hK1, hD1⟩ := hB
  rw [ht] at hP1
  obtain ⟨hP2, hD2⟩ := va_join (wr := wr) (w1 := cs' u) hP hD isC isR hC hR hn hdis hk1 hF hP1 hD1
  exact kk r u H1 locs1 hw hP2 hD2 hS1 (va_K.moved hvm.symm hK1)
end CT
