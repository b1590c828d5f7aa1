/-! Rows of this claim's own form: what a call of the class or of the reference gives is fixed by the world before it. A contract says: from world w0 the method answers r and leaves world w1 (uI, uV), or throws an exception of class E and leaves w0 (uX), or one of both by a number k (uT). -/
/-- the exceptions by number: 1, 2, 3 -/
def xn (k : Nat) : String := if k = 1 then "java/lang/IllegalArgumentException" else if k = 2 then "java/util/NoSuchElementException" else "java/lang/IllegalStateException"
def xg_c : List String := ["java/lang/IllegalArgumentException", "java/util/NoSuchElementException", "java/lang/IllegalStateException"]
def xg_d : List MethodName := [⟨"java/lang/RuntimeException", "<init>", "(Ljava/lang/String;)V"⟩, ⟨"java/lang/Exception", "<init>", "(Ljava/lang/String;)V"⟩, ⟨"java/lang/Throwable", "<init>", "(Ljava/lang/String;)V"⟩, ⟨"java/lang/RuntimeException", "<init>", "()V"⟩, ⟨"java/lang/Exception", "<init>", "()V"⟩, ⟨"java/lang/Throwable", "<init>", "()V"⟩]
def xg_s : List (Nat × String) := [(25, "n is not in 1 .. 200"), (57, "a rank is not below 0"), (60, "the rank falls on no entry"), (62, "which is not 0 or 1"), (68, "no entry stands there"), (70, "a weight is not in 0 .. 1000"), (72, "there is no such entry"), (76, "there would be too many entries")]
/-- what a throw, and a catch, take of the start: two statics of Throwable outside A, words of the tables, the texts' places -/
def xg (ad : Nat → Nat) (A : Nat → Prop) (U : State) (H : Heap) : Prop :=
  (vx_Zq "java/lang/Throwable" "UNASSIGNED_STACK" "[Ljava/lang/StackTraceElement;" A U H ∧ vx_Zq "java/lang/Throwable" "SUPPRESSED_SENTINEL" "Ljava/util/List;" A U H) ∧
  (∀ q ∈ xg_c, va_Nw (.castable q q) U) ∧ (∀ y ∈ xg_d, va_Nw (.declares y) U) ∧
  (va_Nc "java/util/NoSuchElementException" "java/lang/IllegalArgumentException" U ∧ va_Nc "java/lang/IllegalStateException" "java/lang/IllegalArgumentException" U ∧ va_Nc "java/lang/IllegalStateException" "java/util/NoSuchElementException" U) ∧
  ∀ q ∈ xg_s, vk_R "RankRows" q.1 q.2 (ad q.1) U
theorem xg_go {ad : Nat → Nat} {A B : Nat → Prop} {s U : State} {H : Heap} {locs : List Loc} (hW : s.WarmedH U.vm) (h : xg ad A s s.heap) (hS : va_S A s.heap H locs) (hAB : ∀ q, B q → A q) : xg ad B U H := by
  obtain ⟨⟨h1, h2⟩, h3, h4, ⟨h5, h6, h7⟩, h8⟩ := h
  exact ⟨⟨((vx_Zq.moved hW.alike h1).kept hS.2.1).narrow hAB, ((vx_Zq.moved hW.alike h2).kept hS.2.1).narrow hAB⟩, fun q hq => va_Nw.warmC hW (h3 q hq), fun y hy => va_Nw.warmD hW (h4 y hy), ⟨va_Nc.moved hW.alike h5, va_Nc.moved hW.alike h6, va_Nc.moved hW.alike h7⟩, fun q hq => vk_R.warm hW (h8 q hq)⟩
def pr (D : va_G) (ad : Nat → Nat) (tys : List (ClassId × FieldType)) (ws : va_W) (sz : Nat) (U : State) : Prop := U.heap.size = sz ∧ va_P D vwD ws U.heap ∧ va_K D vwD tys U ∧ va_D (fun _ => True) ws ∧ xg ad (va_A ws sz) U U.heap
theorem pr_blind {D : va_G} {ad : Nat → Nat} {tys : List (ClassId × FieldType)} {ws : va_W} {sz : Nat} {av : List Value} : FrameBlind (va_Pc av (pr D ad tys ws sz)) := by
  intro a U g mk h
  obtain ⟨q0, q1, qP, qK, qD, qX⟩ := h
  exact ⟨q0, q1, qP, va_K.moved (u := U) (U := U.calling g mk a) (Vm.Alike.refl U.vm) qK, qD, xg_go (s := U) (U := U.calling g mk a) (locs := []) (State.WarmedH.refl U) qX va_S.rf (fun _ h => h)⟩
theorem pr_fr {A : Nat → Prop} {ws : va_W} {H0 H : Heap} {locs : List Loc} (hD : va_D A ws) (hS : va_S A H0 H locs) (hA : ∀ q, H0.size ≤ q → A q) : ∀ q, va_A ws H.size q → A q := by
  intro q h
  rcases h with ⟨k, e, h⟩ | h
  · exact hD.2 k (q, e) h
  · exact hA q (Nat.le_trans hS.1 h)
theorem pr_at {D : va_G} {ad : Nat → Nat} {tys : List (ClassId × FieldType)} {ws : va_W} {A : Nat → Prop} {s : State} {H : Heap} {locs : List Loc} (hP : va_P D vwD ws H) (hK : va_K D vwD tys s) (hD : va_D A ws) (hS : va_S A s.heap H locs) (hA : ∀ q, s.heap.size ≤ q → A q) (hX : xg ad A s s.heap) : ∀ U : State, U.heap = H → s.WarmedH U.vm → pr D ad tys ws H.size U := by
  intro U hU hW
  refine ⟨by rw [hU], by rw [hU]; exact hP, va_K.moved hW.alike hK, hD.weaken (fun _ _ _ _ => trivial), ?_⟩
  rw [hU]
  exact xg_go hW hX hS (pr_fr hD hS hA)
abbrev nS (D : va_G) (tys : List (ClassId × FieldType)) (A : Nat → Prop) (w1 : va_W) (t : State) : Prop := va_P D vwD w1 t.heap ∧ va_K D vwD tys t ∧ va_D A w1
abbrev qI (D : va_G) (tys : List (ClassId × FieldType)) (w1 : va_W) (r : Int32) (A : Nat → Prop) : Array Value → State → Outcome → State → Prop := va_Qi (fun r' (_ : Unit) => r' = r) (fun _ t => nS D tys A w1 t) A
abbrev qV (D : va_G) (tys : List (ClassId × FieldType)) (w1 : va_W) (A : Nat → Prop) : Array Value → State → Outcome → State → Prop := va_Qv (fun (_ : Unit) => True) (fun _ t => nS D tys A w1 t) A
abbrev qT (D : va_G) (tys : List (ClassId × FieldType)) (w1 : va_W) (k : Nat) (r : Int32) (A : Nat → Prop) : Array Value → State → Outcome → State → Prop := va_Qi (fun r' (_ : Unit) => k = 0 ∧ r' = r) (fun _ t => nS D tys A w1 t) A
abbrev xT (D : va_G) (tys : List (ClassId × FieldType)) (w0 : va_W) (k : Nat) (A : Nat → Prop) : String → State → State → Prop := vx_X (fun (_ : Unit) => True) (fun E _ t => (k ≠ 0 ∧ E = xn k) ∧ nS D tys A w0 t) A
abbrev qX (D : va_G) (tys : List (ClassId × FieldType)) (w0 : va_W) (A : Nat → Prop) : Array Value → State → Outcome → State → Prop := va_Qv (fun (_ : Unit) => False) (fun _ t => nS D tys A w0 t) A
abbrev qN {N3 : Type} (D : va_G) (tys : List (ClassId × FieldType)) (wf : N3 → va_W) (A : Nat → Prop) : Array Value → State → Outcome → State → Prop := va_Qv (fun (_ : N3) => True) (fun u t => nS D tys A (wf u) t) A
/-- the class's cells, and what else there is; the reference's, behind five others -/
abbrev wX (h r f s : Nat) (cI : ClassId) (R F S : Nat → Int32) (cn : Nat) (tl : va_W) : va_W := (h, .inr (0, [.ref r, .ref f, .ref s, .int (nI cn)])) :: (r, .inl (cI, 4000, .inl R)) :: (f, .inl (cI, 4000, .inl F)) :: (s, .inl (cI, 4000, .inl S)) :: tl
abbrev wM (p0 p1 p2 p3 p4 : Nat × va_E) (h r f s : Nat) (cI : ClassId) (R F S : Nat → Int32) (cn : Nat) (th : Int32) : va_W := p0 :: p1 :: p2 :: p3 :: p4 :: (h, .inr (1, [.ref r, .ref f, .ref s, .int (nI cn), .int th])) :: (r, .inl (cI, 4000, .inl R)) :: (f, .inl (cI, 4000, .inl F)) :: (s, .inl (cI, 4000, .inl S)) :: []
def uI (l : Launch) (y : MethodName) (wy : List Cond) (rm : Room) (D : va_G) (ad : Nat → Nat) (tys : List (ClassId × FieldType)) (av : List Value) (w0 w1 : va_W) (r : Int32) (mc ms : Nat) : Prop := ∀ sz : Nat, Met l y wy rm (va_Pc av (pr D ad tys w0 sz)) (qI D tys w1 r (va_A w0 sz)) mc ms (va_A w0 sz)
def uV (l : Launch) (y : MethodName) (wy : List Cond) (rm : Room) (D : va_G) (ad : Nat → Nat) (tys : List (ClassId × FieldType)) (av : List Value) (w0 w1 : va_W) (mc ms : Nat) : Prop := ∀ sz : Nat, Met l y wy rm (va_Pc av (pr D ad tys w0 sz)) (qV D tys w1 (va_A w0 sz)) mc ms (va_A w0 sz)
def uT (l : Launch) (y : MethodName) (wy : List Cond) (rm : Room) (D : va_G) (ad : Nat → Nat) (tys : List (ClassId × FieldType)) (av : List Value) (w0 w1 : va_W) (k : Nat) (r : Int32) : Prop := ∀ sz : Nat, vx_Met l y wy rm (va_Pc av (pr D ad tys w0 sz)) (qT D tys w1 k r (va_A w0 sz)) (xT D tys w0 k (va_A w0 sz)) 1 6 (va_A w0 sz)
def uX (l : Launch) (y : MethodName) (wy : List Cond) (rm : Room) (D : va_G) (ad : Nat → Nat) (tys : List (ClassId × FieldType)) (av : List Value) (w0 : va_W) (k : Nat) : Prop := ∀ sz : Nat, vx_Met l y wy rm (va_Pc av (pr D ad tys w0 sz)) (qX D tys w0 (va_A w0 sz)) (xT D tys w0 k (va_A w0 sz)) 1 6 (va_A w0 sz)
/-- a contract's start: what holds at a body's entry -/
theorem st_M {l : Launch} {y : MethodName} {wy wy' : List Cond} {rm : Room} {D : va_G} {ad : Nat → Nat} {tys : List (ClassId × FieldType)} {w0 : va_W} {Qc : (Nat → Prop) → Array Value → State → Outcome → State → Prop} {mc ms : Nat} {cc : ByteArray} {maxL : Nat} {ret : Option FieldType} (av : List Value) (hy : plainName y.cls = true) (hw : wy = Cond.code y cc maxL ret :: wy') (hz : (lg_sl av).length ≤ maxL)
    (body : ∀ (p : Program) (en : Env) (s : State) (m : MethodId) (below : List Frame) (meth : Method) (c : Code) (A : Nat → Prop) (ls : Array Slot), p.tables.exec = Jvm.exec → c.code = cc → meth.sig.returnType = ret → meth.locks = false → c.maxLocals = maxL → (∀ w ∈ wy, w.before av.toArray s = true) → s.vm.findClass y.cls = some m.cls → (∀ q, s.heap.size ≤ q → A q) → va_S A s.heap s.heap [] → va_P D vwD w0 s.heap → va_K D vwD tys s → va_D A w0 → xg ad A s s.heap → lv_has ls maxL (lv_args 0 av) →
      W p l en rm s m av.toArray below meth c s.heap [] 0 0 (MQ below (Qc A) av.toArray s mc ms A) (F0 m 0 ls [])) : ∀ sz : Nat, Met l y wy rm (va_Pc av (pr D ad tys w0 sz)) (Qc (va_A w0 sz)) mc ms (va_A w0 sz) := by
  intro sz
  refine Met.ofW (cc := cc) (maxL := maxL) (ret := ret) hy hw ?_
  intro p en s m args below meth c s₁ B hml hv
  obtain ⟨rfl, hsz, hP, hK, hD0, hX⟩ := hv
  subst hsz
  have hl := lv_entry av (n := maxL) hz
  rw [lg_entry_eq]
  exact body p en s m below meth c (va_A w0 s.heap.size) _ B.exec B.bytes B.returns B.notSynchronized hml (atoms_spec (ws := wy) B.pre) (findClass_of_methodNamed B.named) (fun q h => Or.inr h) va_S.rf hP hK hD0.self hX hl
/-- a constructor's -/
theorem st_N {l : Launch} {y : MethodName} {wy wy' : List Cond} {rm : Room} {D : va_G} {ad : Nat → Nat} {tys : List (ClassId × FieldType)} {w0 : va_W} {Qc : (Nat → Prop) → Array Value → State → Outcome → State → Prop} {mc ms : Nat} {cc : ByteArray} {maxL : Nat} {ret : Option FieldType} (av : List Value) (hy : plainName y.cls = true) (hw : wy = Cond.code y cc maxL ret :: wy') (hz : (lg_sl av).length ≤ maxL)
    (body : ∀ (p : Program) (en : Env) (s : State) (m : MethodId) (below : List Frame) (meth : Method) (c : Code) (A : Nat → Prop) (ls : Array Slot), meth.name = y.name → p.tables.exec = Jvm.exec → c.code = cc → meth.sig.returnType = ret → meth.locks = false → c.maxLocals = maxL → (∀ w ∈ wy, w.before av.toArray s = true) → s.vm.findClass y.cls = some m.cls → (∀ q, s.heap.size ≤ q → A q) → va_S A s.heap s.heap [] → va_P D vwD w0 s.heap → va_K D vwD tys s → va_D A w0 → xg ad A s s.heap → lv_has ls maxL (lv_args 0 av) →
      W p l en rm s m av.toArray below meth c s.heap [] 0 0 (MQ below (Qc A) av.toArray s mc ms A) (F0 m 0 ls [])) : ∀ sz : Nat, Met l y wy rm (va_Pc av (pr D ad tys w0 sz)) (Qc (va_A w0 sz)) mc ms (va_A w0 sz) := by
  intro sz
  refine Met.ofW (cc := cc) (maxL := maxL) (ret := ret) hy hw ?_
  intro p en s m args below meth c s₁ B hml hv
  obtain ⟨rfl, hsz, hP, hK, hD0, hX⟩ := hv
  subst hsz
  have hl := lv_entry av (n := maxL) hz
  rw [lg_entry_eq]
  exact body p en s m below meth c (va_A w0 s.heap.size) _ (name_of_methodNamed B.named B.method).1 B.exec B.bytes B.returns B.notSynchronized hml (atoms_spec (ws := wy) B.pre) (findClass_of_methodNamed B.named) (fun q h => Or.inr h) va_S.rf hP hK hD0.self hX hl
theorem st_W {l : Launch} {y : MethodName} {wy wy' : List Cond} {rm : Room} {D : va_G} {ad : Nat → Nat} {tys : List (ClassId × FieldType)} {w0 : va_W} {Qc : (Nat → Prop) → Array Value → State → Outcome → State → Prop} {mc ms : Nat} {cc : ByteArray} {maxL : Nat} {ret : Option FieldType} {hh : List (Nat × Nat × Nat × Nat)} (av : List Value) (hy : plainName y.cls = true) (hw : wy = Cond.codeWith y cc maxL ret hh :: wy') (hz : (lg_sl av).length ≤ maxL)
    (body : ∀ (p : Program) (en : Env) (s : State) (m : MethodId) (below : List Frame) (meth : Method) (c : Code) (A : Nat → Prop) (ls : Array Slot), c.exceptionTable.toList = tableOf hh → p.tables.exec = Jvm.exec → c.code = cc → meth.sig.returnType = ret → meth.locks = false → c.maxLocals = maxL → (∀ w ∈ wy, w.before av.toArray s = true) → s.vm.findClass y.cls = some m.cls → (∀ q, s.heap.size ≤ q → A q) → va_S A s.heap s.heap [] → va_P D vwD w0 s.heap → va_K D vwD tys s → va_D A w0 → xg ad A s s.heap → lv_has ls maxL (lv_args 0 av) →
      W p l en rm s m av.toArray below meth c s.heap [] 0 0 (MQ below (Qc A) av.toArray s mc ms A) (F0 m 0 ls [])) : ∀ sz : Nat, Met l y wy rm (va_Pc av (pr D ad tys w0 sz)) (Qc (va_A w0 sz)) mc ms (va_A w0 sz) := by
  intro sz
  refine va_MetW (hh := hh) (cc := cc) (maxL := maxL) (ret := ret) hy hw ?_
  intro p en s m args below meth c s₁ B hml hv
  obtain ⟨rfl, hsz, hP, hK, hD0, hX⟩ := hv
  subst hsz
  have hl := lv_entry av (n := maxL) hz
  have hts := atoms_spec (ws := wy) B.pre
  rw [lg_entry_eq]
  exact body p en s m below meth c (va_A w0 s.heap.size) _ (vx_table (x := y) B (hts (Cond.codeWith y cc maxL ret hh) (by rw [hw]; exact List.mem_cons_self))) B.exec B.bytes B.returns B.notSynchronized hml hts (findClass_of_methodNamed B.named) (fun q h => Or.inr h) va_S.rf hP hK hD0.self hX hl
theorem st_T {l : Launch} {y : MethodName} {wy wy' : List Cond} {rm : Room} {D : va_G} {ad : Nat → Nat} {tys : List (ClassId × FieldType)} {w0 : va_W} {Qc : (Nat → Prop) → Array Value → State → Outcome → State → Prop} {XC : (Nat → Prop) → String → State → State → Prop} {mc ms : Nat} {cc : ByteArray} {maxL : Nat} {ret : Option FieldType} (av : List Value) (hy : plainName y.cls = true) (hw : wy = Cond.code y cc maxL ret :: wy') (hz : (lg_sl av).length ≤ maxL)
    (body : ∀ (p : Program) (en : Env) (s : State) (m : MethodId) (below : List Frame) (meth : Method) (c : Code) (A : Nat → Prop) (ls : Array Slot), (∀ x ∈ c.exceptionTable.toList, False) → p.tables.exec = Jvm.exec → c.code = cc → meth.sig.returnType = ret → meth.locks = false → c.maxLocals = maxL → (∀ w ∈ wy, w.before av.toArray s = true) → s.vm.findClass y.cls = some m.cls → (∀ q, s.heap.size ≤ q → A q) → va_S A s.heap s.heap [] → va_P D vwD w0 s.heap → va_K D vwD tys s → va_D A w0 → xg ad A s s.heap → lv_has ls maxL (lv_args 0 av) →
      W p l en rm s m av.toArray below meth c s.heap [] 0 0 (vx_MQ below (Qc A) (XC A) av.toArray s mc ms A) (F0 m 0 ls [])) : ∀ sz : Nat, vx_Met l y wy rm (va_Pc av (pr D ad tys w0 sz)) (Qc (va_A w0 sz)) (XC (va_A w0 sz)) mc ms (va_A w0 sz) := by
  intro sz
  refine vx_ofW (cc := cc) (maxL := maxL) (ret := ret) hy hw ?_
  intro p en s m args below meth c s₁ B hml hex hv
  obtain ⟨rfl, hsz, hP, hK, hD0, hX⟩ := hv
  subst hsz
  have hl := lv_entry av (n := maxL) hz
  rw [lg_entry_eq]
  exact body p en s m below meth c (va_A w0 s.heap.size) _ hex B.exec B.bytes B.returns B.notSynchronized hml (atoms_spec (ws := wy) B.pre) (findClass_of_methodNamed B.named) (fun q h => Or.inr h) va_S.rf hP hK hD0.self hX hl
section RQ
variable {p : Program} {l : Launch} {e : Env} {R : Room} {s : State} {m : MethodId} {args : Array Value} {below : List Frame} {meth : Method} {c : Code} {H : Heap} {locs : List Loc} {cells slots : Nat} {Q : State → Prop}
variable {cc : ByteArray} {pc : Nat} {ls : Array Slot} {rest st0 : List Value} {D : va_G} {ad : Nat → Nat} {A : Nat → Prop} {tys : List (ClassId × FieldType)} {ws w0 w1 : va_W}
/-- the number on top by another name -/
theorem q_top {x : Int32} (y : Int32) (h : x = y) (k : W p l e R s m args below meth c H locs cells slots Q (F0 m pc ls (.int y :: rest))) : W p l e R s m args below meth c H locs cells slots Q (F0 m pc ls (.int x :: rest)) := by rw [h]; exact k
theorem q_topl {x : Int64} (y : Int64) (h : x = y) (k : W p l e R s m args below meth c H locs cells slots Q (F0 m pc ls (.long y :: rest))) : W p l e R s m args below meth c H locs cells slots Q (F0 m pc ls (.long x :: rest)) := by rw [h]; exact k
theorem q_iald (hx : p.tables.exec = Jvm.exec) (hb : c.code = cc) (hK : va_K D vwD tys s) (hP : va_P D vwD ws H) (q0 t0 : Nat) {a : Nat} {cA : ClassId} {n : Nat} {f : Nat → Int32} (ha : ws[q0]? = some (a, .inl (cA, n, .inl f))) (ht : tys[t0]? = some (cA, .int)) (k : Nat) (hk : k < n) (hn : n ≤ 4000) {i : Int32} (hi : i = nI k) (hdg : decode cc pc = .ok (.iaload, 1))
    (kk : W p l e R s m args below meth c H locs cells slots Q (F0 m (pc + 1) ls (.int (f k) :: rest))) : W p l e R s m args below meth c H locs cells slots Q (F0 m pc ls (.int i :: .ref a :: rest)) := by
  subst hi
  have hcl : (nI k).toNatClampNeg = k := nI_clamp (by omega)
  refine va_iald hx hb hK hP q0 t0 ha ht (vp_in_nI hk (by omega)) hdg ?_
  rw [hcl]
  exact kk
theorem q_iast (hx : p.tables.exec = Jvm.exec) (hb : c.code = cc) (hK : va_K D vwD tys s) (hP : va_P D vwD ws H) (hD : va_D A ws) (hS : va_S A s.heap H locs) (q0 t0 : Nat) {a : Nat} {cA : ClassId} {n : Nat} {f : Nat → Int32} (ha : ws[q0]? = some (a, .inl (cA, n, .inl f))) (ht : tys[t0]? = some (cA, .int)) (k : Nat) (hk : k < n) (hn : n ≤ 4000) {i x : Int32} (hi : i = nI k) (hdg : decode cc pc = .ok (.iastore, 1))
    (kk : ∀ (H1 : Heap) (locs1 : List Loc), va_P D vwD (ws.set q0 (a, .inl (cA, n, .inl (upd f k x)))) H1 → va_D A (ws.set q0 (a, .inl (cA, n, .inl (upd f k x)))) → va_S A s.heap H1 locs1 → W p l e R s m args below meth c H1 locs1 cells slots Q (F0 m (pc + 1) ls rest)) : W p l e R s m args below meth c H locs cells slots Q (F0 m pc ls (.int x :: .int i :: .ref a :: rest)) := by
  subst hi
  have hcl : (nI k).toNatClampNeg = k := nI_clamp (by omega)
  refine va_iast hx hb hK hP hD hS q0 t0 ha ht (vp_in_nI hk (by omega)) hdg (fun H1 locs1 p1 d1 s1 => ?_)
  rw [hcl] at p1 d1
  exact kk H1 locs1 p1 d1 s1
variable {y : MethodName} {wy Ts : List Cond} {rm : Room} {r : Int32} {mc ms nL maxL index n k k0 mc0 ms0 : Nat} {own C : String} {bytes : ByteArray} {ret : Option FieldType} {b ci N : Nat} {As : List Value} {T : u_T} {fs : List Value} {free : Addr → Prop} {Qc : Array Value → State → Outcome → State → Prop} {XC : String → State → State → Prop}
/-- a call on an object that answers an int -/
theorem r_i (hM : uI l y wy rm D ad tys (.ref b :: As) ws w1 r mc ms) (S : CallFix p m c cc nL s args Ts own) (cw : CallW R s args own C index y bytes maxL ret wy rm mc ms n) (hP : va_P D vwD ws H) (hK : va_K D vwD tys s) (hD : va_D A ws) (hS : va_S A s.heap H locs) (hA : ∀ q, s.heap.size ≤ q → A q) (hX : xg ad A s s.heap)
    (q0 : Nat) (he : ws[q0]? = some (b, .inr (ci, fs))) (hc : vwD[ci]? = some (C, T, N)) (hn : As.length = n) (hz : ls.size = nL) (hst : st0 = As.reverse ++ .ref b :: rest) (hw : (rest.map fun v => v.category).sum ≤ 8) (hdg : decode cc pc = .ok (.invokevirtual index, 3)) (hf : cells + mc ≤ R.cells ∧ slots + ms ≤ R.slots)
    (kk : ∀ (H1 : Heap) (locs1 : List Loc), va_P D vwD w1 H1 → va_D A w1 → va_S A s.heap H1 locs1 → W p l e R s m args below meth c H1 locs1 (cells + mc) (slots + ms) Q (F0 m (pc + 3) ls (.int r :: rest))) : W p l e R s m args below meth c H locs cells slots Q (F0 m pc ls st0) := by
  have hF := pr_fr hD hS hA
  refine va_calli (va_runV (g := F0 m pc ls st0) (As := As) (rest := rest) S (hM H.size) cw ⟨pr_blind, va_recv hK hP hc he, fun U hU hW => ⟨rfl, pr_at hP hK hD hS hA hX U hU hW⟩⟩ rfl hn hz hst (lv_room (m := m) (pc := pc) (ls := ls) (rest := st0) hw) hdg hf) hS (fun q _ h => hF q h) hF (fun r' u t H1 locs1 ht hvm hp hB hz1 hk1 hS1 => ?_)
  subst hp
  obtain ⟨p1, k1, d1⟩ := hB
  rw [ht] at p1
  exact kk H1 locs1 p1 (d1.weaken (fun _ q _ h => hF q.1 h)) hS1
/-- a call on an object that answers nothing -/
theorem r_v (hM : uV l y wy rm D ad tys (.ref b :: As) ws w1 mc ms) (S : CallFix p m c cc nL s args Ts own) (cw : CallW R s args own C index y bytes maxL ret wy rm mc ms n) (hP : va_P D vwD ws H) (hK : va_K D vwD tys s) (hD : va_D A ws) (hS : va_S A s.heap H locs) (hA : ∀ q, s.heap.size ≤ q → A q) (hX : xg ad A s s.heap)
    (q0 : Nat) (he : ws[q0]? = some (b, .inr (ci, fs))) (hc : vwD[ci]? = some (C, T, N)) (hn : As.length = n) (hz : ls.size = nL) (hst : st0 = As.reverse ++ .ref b :: rest) (hw : (rest.map fun v => v.category).sum ≤ 8) (hdg : decode cc pc = .ok (.invokevirtual index, 3)) (hf : cells + mc ≤ R.cells ∧ slots + ms ≤ R.slots)
    (kk : ∀ (H1 : Heap) (locs1 : List Loc), va_P D vwD w1 H1 → va_D A w1 → va_S A s.heap H1 locs1 → W p l e R s m args below meth c H1 locs1 (cells + mc) (slots + ms) Q (F0 m (pc + 3) ls rest)) : W p l e R s m args below meth c H locs cells slots Q (F0 m pc ls st0) := by
  have hF := pr_fr hD hS hA
  refine va_callv (va_runV (g := F0 m pc ls st0) (As := As) (rest := rest) S (hM H.size) cw ⟨pr_blind, va_recv hK hP hc he, fun U hU hW => ⟨rfl, pr_at hP hK hD hS hA hX U hU hW⟩⟩ rfl hn hz hst (lv_room (m := m) (pc := pc) (ls := ls) (rest := st0) hw) hdg hf) hS (fun q _ h => hF q h) hF (fun u t H1 locs1 ht hvm hp hB hz1 hk1 hS1 => ?_)
  obtain ⟨p1, k1, d1⟩ := hB
  rw [ht] at p1
  exact kk H1 locs1 p1 (d1.weaken (fun _ q _ h => hF q.1 h)) hS1
/-- a static call that answers an int -/
theorem r_si (hM : uI l y wy rm D ad tys As ws w1 r mc ms) (S : CallFix p m c cc nL s args Ts own) (cw : CallB R s args own index y bytes maxL ret wy rm mc ms n ∧ (Cond.static y).before args s = true) (hP : va_P D vwD ws H) (hK : va_K D vwD tys s) (hD : va_D A ws) (hS : va_S A s.heap H locs) (hA : ∀ q, s.heap.size ≤ q → A q) (hX : xg ad A s s.heap)
    (hn : As.length = n) (hz : ls.size = nL) (hst : st0 = As.reverse ++ rest) (hw : (rest.map fun v => v.category).sum ≤ 8) (hdg : decode cc pc = .ok (.invokestatic index, 3)) (hf : cells + mc ≤ R.cells ∧ slots + ms ≤ R.slots)
    (kk : ∀ (H1 : Heap) (locs1 : List Loc), va_P D vwD w1 H1 → va_D A w1 → va_S A s.heap H1 locs1 → W p l e R s m args below meth c H1 locs1 (cells + mc) (slots + ms) Q (F0 m (pc + 3) ls (.int r :: rest))) : W p l e R s m args below meth c H locs cells slots Q (F0 m pc ls st0) := by
  have hF := pr_fr hD hS hA
  refine va_calli (va_runS (g := F0 m pc ls st0) (As := As) (rest := rest) S (hM H.size) cw ⟨pr_blind, fun U hU hW => ⟨rfl, pr_at hP hK hD hS hA hX U hU hW⟩⟩ rfl hn hz hst (lv_room (m := m) (pc := pc) (ls := ls) (rest := st0) hw) hdg hf) hS (fun q _ h => hF q h) hF (fun r' u t H1 locs1 ht hvm hp hB hz1 hk1 hS1 => ?_)
  subst hp
  obtain ⟨p1, k1, d1⟩ := hB
  rw [ht] at p1
  exact kk H1 locs1 p1 (d1.weaken (fun _ q _ h => hF q.1 h)) hS1
theorem r_sv (hM : uV l y wy rm D ad tys As ws w1 mc ms) (S : CallFix p m c cc nL s args Ts own) (cw : CallB R s args own index y bytes maxL ret wy rm mc ms n ∧ (Cond.static y).before args s = true) (hP : va_P D vwD ws H) (hK : va_K D vwD tys s) (hD : va_D A ws) (hS : va_S A s.heap H locs) (hA : ∀ q, s.heap.size ≤ q → A q) (hX : xg ad A s s.heap)
    (hn : As.length = n) (hz : ls.size = nL) (hst : st0 = As.reverse ++ rest) (hw : (rest.map fun v => v.category).sum ≤ 8) (hdg : decode cc pc = .ok (.invokestatic index, 3)) (hf : cells + mc ≤ R.cells ∧ slots + ms ≤ R.slots)
    (kk : ∀ (H1 : Heap) (locs1 : List Loc), va_P D vwD w1 H1 → va_D A w1 → va_S A s.heap H1 locs1 → W p l e R s m args below meth c H1 locs1 (cells + mc) (slots + ms) Q (F0 m (pc + 3) ls rest)) : W p l e R s m args below meth c H locs cells slots Q (F0 m pc ls st0) := by
  have hF := pr_fr hD hS hA
  refine va_callv (va_runS (g := F0 m pc ls st0) (As := As) (rest := rest) S (hM H.size) cw ⟨pr_blind, fun U hU hW => ⟨rfl, pr_at hP hK hD hS hA hX U hU hW⟩⟩ rfl hn hz hst (lv_room (m := m) (pc := pc) (ls := ls) (rest := st0) hw) hdg hf) hS (fun q _ h => hF q h) hF (fun u t H1 locs1 ht hvm hp hB hz1 hk1 hS1 => ?_)
  obtain ⟨p1, k1, d1⟩ := hB
  rw [ht] at p1
  exact kk H1 locs1 p1 (d1.weaken (fun _ q _ h => hF q.1 h)) hS1
/-- the callee throws, nothing here takes it: on an object -/
theorem r_x (hM : uX l y wy rm D ad tys (.ref b :: As) ws k) (S : CallFix p m c cc nL s args Ts own) (cw : CallW R s args own C index y bytes maxL ret wy rm 1 6 n) (hP : va_P D vwD ws H) (hK : va_K D vwD tys s) (hD : va_D A ws) (hS : va_S A s.heap H locs) (hA : ∀ q, s.heap.size ≤ q → A q) (hX : xg ad A s s.heap)
    (q0 : Nat) (he : ws[q0]? = some (b, .inr (ci, fs))) (hc : vwD[ci]? = some (C, T, N)) (hn : As.length = n) (hz : ls.size = nL) (hst : st0 = As.reverse ++ .ref b :: rest) (hw : (rest.map fun v => v.category).sum ≤ 8) (hdg : decode cc pc = .ok (.invokevirtual index, 3)) (hf : cells + 1 ≤ R.cells ∧ slots + 6 ≤ R.slots)
    (hex : ∀ x ∈ c.exceptionTable.toList, False) (hlocks : meth.locks = false) (hk : k = k0) (hmc : cells + 1 ≤ mc0) (hms : slots + 6 ≤ ms0) : W p l e R s m args below meth c H locs cells slots (vx_MQ below Qc (xT D tys ws k0 A) args s mc0 ms0 A) (F0 m pc ls st0) := by
  have hF := pr_fr hD hS hA
  subst hk
  refine vx_callv (vx_runV (g := F0 m pc ls st0) (As := As) (rest := rest) S (hM H.size) cw ⟨pr_blind, va_recv hK hP hc he, fun U hU hW => ⟨rfl, pr_at hP hK hD hS hA hX U hU hW⟩⟩ rfl hn hz hst (lv_room (m := m) (pc := pc) (ls := ls) (rest := st0) hw) hdg hf) hS (fun q _ h => hF q h) hF (fun q _ h => hF q h) (fun E ce q9 u t H1 locs1 ht hvm hp hB hz1 hk1 hS1 hce hcv hcl => ?_) (fun u t H1 locs1 ht hvm hp hB hz1 hk1 hS1 => hp.elim)
  obtain ⟨hE, p1, k1, d1⟩ := hB
  rw [ht] at p1
  exact vx_out (E := E) (fun x h => (hex x h).elim) hlocks hce hcv hcl (fun t' ht' ha => ⟨(), trivial, ⟨hE, by rw [ht']; exact p1, va_K.moved ha hK, d1.weaken (fun _ q _ h => hF q.1 h)⟩, hS1.F ht'⟩) hS1.2.2 hmc hms
/-- the same, a static call -/
theorem r_sx (hM : uX l y wy rm D ad tys As ws k) (S : CallFix p m c cc nL s args Ts own) (cw : CallB R s args own index y bytes maxL ret wy rm 1 6 n ∧ (Cond.static y).before args s = true) (hP : va_P D vwD ws H) (hK : va_K D vwD tys s) (hD : va_D A ws) (hS : va_S A s.heap H locs) (hA : ∀ q, s.heap.size ≤ q → A q) (hX : xg ad A s s.heap)
    (hn : As.length = n) (hz : ls.size = nL) (hst : st0 = As.reverse ++ rest) (hw : (rest.map fun v => v.category).sum ≤ 8) (hdg : decode cc pc = .ok (.invokestatic index, 3)) (hf : cells + 1 ≤ R.cells ∧ slots + 6 ≤ R.slots)
    (hex : ∀ x ∈ c.exceptionTable.toList, False) (hlocks : meth.locks = false) (hk : k = k0) (hmc : cells + 1 ≤ mc0) (hms : slots + 6 ≤ ms0) : W p l e R s m args below meth c H locs cells slots (vx_MQ below Qc (xT D tys ws k0 A) args s mc0 ms0 A) (F0 m pc ls st0) := by
  have hF := pr_fr hD hS hA
  subst hk
  refine vx_callv (vx_runS (g := F0 m pc ls st0) (As := As) (rest := rest) S (hM H.size) cw ⟨pr_blind, fun U hU hW => ⟨rfl, pr_at hP hK hD hS hA hX U hU hW⟩⟩ rfl hn hz hst (lv_room (m := m) (pc := pc) (ls := ls) (rest := st0) hw) hdg hf) hS (fun q _ h => hF q h) hF (fun q _ h => hF q h) (fun E ce q9 u t H1 locs1 ht hvm hp hB hz1 hk1 hS1 hce hcv hcl => ?_) (fun u t H1 locs1 ht hvm hp hB hz1 hk1 hS1 => hp.elim)
  obtain ⟨hE, p1, k1, d1⟩ := hB
  rw [ht] at p1
  exact vx_out (E := E) (fun x h => (hex x h).elim) hlocks hce hcv hcl (fun t' ht' ha => ⟨(), trivial, ⟨hE, by rw [ht']; exact p1, va_K.moved ha hK, d1.weaken (fun _ q _ h => hF q.1 h)⟩, hS1.F ht'⟩) hS1.2.2 hmc hms
/-- a call on an object that answers, or throws -/
theorem r_c (hM : uT l y wy rm D ad tys (.ref b :: As) ws w1 k r) (S : CallFix p m c cc nL s args Ts own) (cw : CallW R s args own C index y bytes maxL ret wy rm 1 6 n) (hP : va_P D vwD ws H) (hK : va_K D vwD tys s) (hD : va_D A ws) (hS : va_S A s.heap H locs) (hA : ∀ q, s.heap.size ≤ q → A q) (hX : xg ad A s s.heap)
    (q0 : Nat) (he : ws[q0]? = some (b, .inr (ci, fs))) (hc : vwD[ci]? = some (C, T, N)) (hn : As.length = n) (hz : ls.size = nL) (hst : st0 = As.reverse ++ .ref b :: rest) (hw : (rest.map fun v => v.category).sum ≤ 8) (hdg : decode cc pc = .ok (.invokevirtual index, 3)) (hf : cells + 1 ≤ R.cells ∧ slots + 6 ≤ R.slots)
    (kx : ∀ (E : String) (ce : Cell) (q9 : Addr) (H1 : Heap) (locs1 : List Loc), k ≠ 0 → E = xn k → va_P D vwD ws H1 → va_D A ws → va_S A s.heap H1 locs1 → H1[q9]? = some ce → ce.vm = .none → s.vm.findClass E = some ce.cls → vx_W p l e R s m args below meth c H1 locs1 (cells + 1) (slots + 6) Q (F0 m pc ls rest) q9)
    (kk : ∀ (H1 : Heap) (locs1 : List Loc), k = 0 → va_P D vwD w1 H1 → va_D A w1 → va_S A s.heap H1 locs1 → W p l e R s m args below meth c H1 locs1 (cells + 1) (slots + 6) Q (F0 m (pc + 3) ls (.int r :: rest))) : W p l e R s m args below meth c H locs cells slots Q (F0 m pc ls st0) := by
  have hF := pr_fr hD hS hA
  refine vx_calli (vx_runV (g := F0 m pc ls st0) (As := As) (rest := rest) S (hM H.size) cw ⟨pr_blind, va_recv hK hP hc he, fun U hU hW => ⟨rfl, pr_at hP hK hD hS hA hX U hU hW⟩⟩ rfl hn hz hst (lv_room (m := m) (pc := pc) (ls := ls) (rest := st0) hw) hdg hf) hS (fun q _ h => hF q h) hF (fun q _ h => hF q h) (fun E ce q9 u t H1 locs1 ht hvm hp hB hz1 hk1 hS1 hce hcv hcl => ?_) (fun r' u t H1 locs1 ht hvm hp hB hz1 hk1 hS1 => ?_)
  · obtain ⟨hE, p1, k1, d1⟩ := hB
    rw [ht] at p1
    exact kx E ce q9 H1 locs1 hE.1 hE.2 p1 (d1.weaken (fun _ q _ h => hF q.1 h)) hS1 hce hcv hcl
  · obtain ⟨hk0, rfl⟩ := hp
    obtain ⟨p1, k1, d1⟩ := hB
    rw [ht] at p1
    exact kk H1 locs1 hk0 p1 (d1.weaken (fun _ q _ h => hF q.1 h)) hS1
/-- a static call of a method with a table of its own, that answers an int -/
theorem r_swi {hh : List (Nat × Nat × Nat × Nat)} (hM : uI l y wy rm D ad tys As ws w1 r mc ms) (S : CallFix p m c cc nL s args Ts own) (cw : vx_CSW R s args own index y bytes maxL ret hh wy rm mc ms n) (hP : va_P D vwD ws H) (hK : va_K D vwD tys s) (hD : va_D A ws) (hS : va_S A s.heap H locs) (hA : ∀ q, s.heap.size ≤ q → A q) (hX : xg ad A s s.heap)
    (hn : As.length = n) (hz : ls.size = nL) (hst : st0 = As.reverse ++ rest) (hw : (rest.map fun v => v.category).sum ≤ 8) (hdg : decode cc pc = .ok (.invokestatic index, 3)) (hf : cells + mc ≤ R.cells ∧ slots + ms ≤ R.slots)
    (kk : ∀ (H1 : Heap) (locs1 : List Loc), va_P D vwD w1 H1 → va_D A w1 → va_S A s.heap H1 locs1 → W p l e R s m args below meth c H1 locs1 (cells + mc) (slots + ms) Q (F0 m (pc + 3) ls (.int r :: rest))) : W p l e R s m args below meth c H locs cells slots Q (F0 m pc ls st0) := by
  have hF := pr_fr hD hS hA
  refine va_calli (vx_runSW (g := F0 m pc ls st0) (As := As) (rest := rest) S (hM H.size) cw ⟨pr_blind, fun U hU hW => ⟨rfl, pr_at hP hK hD hS hA hX U hU hW⟩⟩ rfl hn hz hst (lv_room (m := m) (pc := pc) (ls := ls) (rest := st0) hw) hdg hf) hS (fun q _ h => hF q h) hF (fun r' u t H1 locs1 ht hvm hp hB hz1 hk1 hS1 => ?_)
  subst hp
  obtain ⟨p1, k1, d1⟩ := hB
  rw [ht] at p1
  exact kk H1 locs1 p1 (d1.weaken (fun _ q _ h => hF q.1 h)) hS1
/-- the same on an object -/
theorem r_vwi {hh : List (Nat × Nat × Nat × Nat)} (hM : uI l y wy rm D ad tys (.ref b :: As) ws w1 r mc ms) (S : CallFix p m c cc nL s args Ts own) (cw : vx_CVW R s args own C index y bytes maxL ret hh wy rm mc ms n) (hP : va_P D vwD ws H) (hK : va_K D vwD tys s) (hD : va_D A ws) (hS : va_S A s.heap H locs) (hA : ∀ q, s.heap.size ≤ q → A q) (hX : xg ad A s s.heap)
    (q0 : Nat) (he : ws[q0]? = some (b, .inr (ci, fs))) (hc : vwD[ci]? = some (C, T, N)) (hn : As.length = n) (hz : ls.size = nL) (hst : st0 = As.reverse ++ .ref b :: rest) (hw : (rest.map fun v => v.category).sum ≤ 8) (hdg : decode cc pc = .ok (.invokevirtual index, 3)) (hf : cells + mc ≤ R.cells ∧ slots + ms ≤ R.slots)
    (kk : ∀ (H1 : Heap) (locs1 : List Loc), va_P D vwD w1 H1 → va_D A w1 → va_S A s.heap H1 locs1 → W p l e R s m args below meth c H1 locs1 (cells + mc) (slots + ms) Q (F0 m (pc + 3) ls (.int r :: rest))) : W p l e R s m args below meth c H locs cells slots Q (F0 m pc ls st0) := by
  have hF := pr_fr hD hS hA
  refine va_calli (vx_runVW (g := F0 m pc ls st0) (As := As) (rest := rest) S (hM H.size) cw ⟨pr_blind, va_recv hK hP hc he, fun U hU hW => ⟨rfl, pr_at hP hK hD hS hA hX U hU hW⟩⟩ rfl hn hz hst (lv_room (m := m) (pc := pc) (ls := ls) (rest := st0) hw) hdg hf) hS (fun q _ h => hF q h) hF (fun r' u t H1 locs1 ht hvm hp hB hz1 hk1 hS1 => ?_)
  subst hp
  obtain ⟨p1, k1, d1⟩ := hB
  rw [ht] at p1
  exact kk H1 locs1 p1 (d1.weaken (fun _ q _ h => hF q.1 h)) hS1
/-- a constructor: its new cells are named by what it leaves -/
theorem r_n {N3 : Type} {wf : N3 → va_W} (hM : ∀ sz : Nat, Met l y wy rm (va_Pc (.ref b :: As) (pr D ad tys ws sz)) (qN D tys wf (va_A ws sz)) mc ms (va_A ws sz)) (S : CallFix p m c cc nL s args Ts own) (cw : CallB R s args own index y bytes maxL none wy rm mc ms n ∧ y.name = "<init>" ∧ (Cond.instanceMethod y).before args s = true) (hP : va_P D vwD ws H) (hK : va_K D vwD tys s) (hD : va_D A ws) (hS : va_S A s.heap H locs) (hA : ∀ q, s.heap.size ≤ q → A q) (hX : xg ad A s s.heap)
    (hn : As.length = n) (hz : ls.size = nL) (hst : st0 = As.reverse ++ .ref b :: rest) (hw : (rest.map fun v => v.category).sum ≤ 8) (hdg : decode cc pc = .ok (.invokespecial index, 3)) (hf : cells + mc ≤ R.cells ∧ slots + ms ≤ R.slots)
    (kk : ∀ (u : N3) (H1 : Heap) (locs1 : List Loc), va_P D vwD (wf u) H1 → va_D A (wf u) → va_S A s.heap H1 locs1 → W p l e R s m args below meth c H1 locs1 (cells + mc) (slots + ms) Q (F0 m (pc + 3) ls rest)) : W p l e R s m args below meth c H locs cells slots Q (F0 m pc ls st0) := by
  have hF := pr_fr hD hS hA
  refine va_callv (va_runI (g := F0 m pc ls st0) (As := As) (rest := rest) S (hM H.size) cw ⟨pr_blind, fun U hU hW => ⟨rfl, pr_at hP hK hD hS hA hX U hU hW⟩⟩ rfl hn hz hst (lv_room (m := m) (pc := pc) (ls := ls) (rest := st0) hw) hdg hf) hS (fun q _ h => hF q h) hF (fun u t H1 locs1 ht hvm hp hB hz1 hk1 hS1 => ?_)
  obtain ⟨p1, k1, d1⟩ := hB
  rw [ht] at p1
  exact kk u H1 locs1 p1 (d1.weaken (fun _ q _ h => hF q.1 h)) hS1
/-- where a method throws by itself -/
theorem r_t {j : Nat} (hkj : k = j) (hj : j ≠ 0) {E : String} (hE : E = xn j) (hP : va_P D vwD ws H) (hK : va_K D vwD tys s) (hD : va_D A ws) (hS : va_S A s.heap H locs) : ∀ t : State, s.vm.Alike t.vm → H.size ≤ t.heap.size → (∀ q : Nat, q < H.size → t.heap[q]? = H[q]?) → xT D tys ws k A E s t :=
  fun t ha hsz hq => ⟨(), trivial, ⟨⟨by rw [hkj]; exact hj, by rw [hkj]; exact hE⟩, hP.kept (fun j q hj => hq q.1 (hP j q hj).lt), va_K.moved ha hK, hD⟩, Nat.le_trans hS.1 hsz, fun q h1 h2 => (hq q (Nat.lt_of_lt_of_le h1 hS.1)).trans (hS.2.1 q h1 h2)⟩
/-- ends -/
theorem e_i (hx : p.tables.exec = Jvm.exec) (hb : c.code = cc) (hr : meth.sig.returnType = some .int) (hlocks : meth.locks = false) (hP : va_P D vwD w1 H) (hK : va_K D vwD tys s) (hD : va_D A w1) (hS : va_S A s.heap H locs) (hdg : decode cc pc = .ok (.ireturn, 1)) (hc : cells ≤ mc) (hs : slots ≤ ms) : W p l e R s m args below meth c H locs cells slots (MQ below (qI D tys w1 r A) args s mc ms A) (F0 m pc ls [.int r]) :=
  W.widen hc hs (W.iret (v := r) hx hb hr (fun t ht hW => ⟨⟨r, (), rfl, rfl, by rw [ht]; exact hP, va_K.moved hW.alike hK, hD⟩, hS.F ht⟩) hS.2.2 hdg hlocks)
theorem e_z (hx : p.tables.exec = Jvm.exec) (hb : c.code = cc) (hr : meth.sig.returnType = some .boolean) (hn : narrow .boolean (.int r) = .int r) (hlocks : meth.locks = false) (hP : va_P D vwD w1 H) (hK : va_K D vwD tys s) (hD : va_D A w1) (hS : va_S A s.heap H locs) (hdg : decode cc pc = .ok (.ireturn, 1)) (hc : cells ≤ mc) (hs : slots ≤ ms) : W p l e R s m args below meth c H locs cells slots (MQ below (qI D tys w1 r A) args s mc ms A) (F0 m pc ls [.int r]) :=
  W.widen hc hs (W.zret (v := r) hx hb hr hn (fun t ht hW => ⟨⟨r, (), rfl, rfl, by rw [ht]; exact hP, va_K.moved hW.alike hK, hD⟩, hS.F ht⟩) hS.2.2 hdg hlocks)
theorem e_v (hx : p.tables.exec = Jvm.exec) (hb : c.code = cc) (hr : meth.sig.returnType = none) (hlocks : meth.locks = false) (hP : va_P D vwD w1 H) (hK : va_K D vwD tys s) (hD : va_D A w1) (hS : va_S A s.heap H locs) (hdg : decode cc pc = .ok (.return_, 1)) (hc : cells ≤ mc) (hs : slots ≤ ms) : W p l e R s m args below meth c H locs cells slots (MQ below (qV D tys w1 A) args s mc ms A) (F0 m pc ls []) :=
  W.widen hc hs (W.vret hx hb hr (fun t ht hW => ⟨⟨(), rfl, trivial, by rw [ht]; exact hP, va_K.moved hW.alike hK, hD⟩, hS.F ht⟩) hS.2.2 hdg hlocks)
theorem e_t (hx : p.tables.exec = Jvm.exec) (hb : c.code = cc) (hr : meth.sig.returnType = some .int) (hlocks : meth.locks = false) (hk : k = 0) (hP : va_P D vwD w1 H) (hK : va_K D vwD tys s) (hD : va_D A w1) (hS : va_S A s.heap H locs) (hdg : decode cc pc = .ok (.ireturn, 1)) (hc : cells ≤ mc) (hs : slots ≤ ms) : W p l e R s m args below meth c H locs cells slots (vx_MQ below (qT D tys w1 k r A) XC args s mc ms A) (F0 m pc ls [.int r]) :=
  vx_ret (W.widen hc hs (W.iret (v := r) hx hb hr (fun t ht hW => ⟨⟨r, (), rfl, ⟨hk, rfl⟩, by rw [ht]; exact hP, va_K.moved hW.alike hK, hD⟩, hS.F ht⟩) hS.2.2 hdg hlocks))
theorem e_n {N3 : Type} {wf : N3 → va_W} (u : N3) (hx : p.tables.exec = Jvm.exec) (hb : c.code = cc) (hr : meth.sig.returnType = none) (hlocks : meth.locks = false) (hP : va_P D vwD (wf u) H) (hK : va_K D vwD tys s) (hD : va_D A (wf u)) (hS : va_S A s.heap H locs) (hdg : decode cc pc = .ok (.return_, 1)) (hc : cells ≤ mc) (hs : slots ≤ ms) : W p l e R s m args below meth c H locs cells slots (MQ below (qN D tys wf A) args s mc ms A) (F0 m pc ls []) :=
  W.widen hc hs (W.vret hx hb hr (fun t ht hW => ⟨⟨u, rfl, trivial, by rw [ht]; exact hP, va_K.moved hW.alike hK, hD⟩, hS.F ht⟩) hS.2.2 hdg hlocks)
/-- an array of 4000 ints, all 0: its class is the one that is known -/
theorem q_newi {cI cJ : ClassId} (hx : p.tables.exec = Jvm.exec) (hb : c.code = cc) (harr : (Cond.arrayClass .int).before args s = true) (hK : va_K D vwD [(cI, .int), (cJ, .long)] s) (hP : va_P D vwD ws H) (hD : va_D A ws) (hS : va_S A s.heap H locs) (hA : ∀ q, s.heap.size ≤ q → A q) (hcells : cells + 1 ≤ R.cells) (hslots : slots + 4000 ≤ R.slots) (hdg : decode cc pc = .ok (.newarray .int, 2))
    (kk : ∀ (q : Nat) (H1 : Heap), va_P D vwD (ws ++ [(q, .inl (cI, 4000, .inl (fun _ => 0)))]) H1 → va_D A (ws ++ [(q, .inl (cI, 4000, .inl (fun _ => 0)))]) → va_S A s.heap H1 locs →
      W p l e R s m args below meth c H1 locs (cells + 1) (slots + 4000) Q (F0 m (pc + 2) ls (.ref q :: rest))) : W p l e R s m args below meth c H locs cells slots Q (F0 m pc ls (.int 4000 :: rest)) := by
  refine va_newa (atype := .int) (ty := .int) (a0 := (4000, .inl (fun _ => 0))) (N' := 4000) hx hb harr rfl hK hP hD hS hA (fun cA => rfl) (by decide) (by decide) (by decide) hcells hslots hdg (fun q cA H1 hK1 hP1 hD1 hS1 => ?_)
  have h1 : s.vm.findClass ("[" ++ FieldType.int.toString) = some cA := (hK1.2 2 _ rfl).2
  have h2 : s.vm.findClass ("[" ++ FieldType.int.toString) = some cI := (hK.2 0 _ rfl).2
  have h3 : cI = cA := Option.some.inj (h2.symm.trans h1)
  subst h3
  exact kk q H1 hP1 hD1 hS1
/-- the array of one long -/
theorem q_newl {cI cJ : ClassId} (hx : p.tables.exec = Jvm.exec) (hb : c.code = cc) (harr : (Cond.arrayClass .long).before args s = true) (hK : va_K D vwD [(cI, .int), (cJ, .long)] s) (hP : va_P D vwD ws H) (hD : va_D A ws) (hS : va_S A s.heap H locs) (hA : ∀ q, s.heap.size ≤ q → A q) (hcells : cells + 1 ≤ R.cells) (hslots : slots + 1 ≤ R.slots) (hdg : decode cc pc = .ok (.newarray .long, 2))
    (kk : ∀ (q : Nat) (H1 : Heap), va_P D vwD (ws ++ [(q, .inl (cJ, 1, .inr (.inl (fun _ => 0))))]) H1 → va_D A (ws ++ [(q, .inl (cJ, 1, .inr (.inl (fun _ => 0))))]) → va_S A s.heap H1 locs →
      W p l e R s m args below meth c H1 locs (cells + 1) (slots + 1) Q (F0 m (pc + 2) ls (.ref q :: rest))) : W p l e R s m args below meth c H locs cells slots Q (F0 m pc ls (.int 1 :: rest)) := by
  refine va_newa (atype := .long) (ty := .long) (a0 := (1, .inr (.inl (fun _ => 0)))) (N' := 1) hx hb harr rfl hK hP hD hS hA (fun cA => rfl) (by decide) (by decide) (by decide) hcells hslots hdg (fun q cA H1 hK1 hP1 hD1 hS1 => ?_)
  have h1 : s.vm.findClass ("[" ++ FieldType.long.toString) = some cA := (hK1.2 2 _ rfl).2
  have h2 : s.vm.findClass ("[" ++ FieldType.long.toString) = some cJ := (hK.2 1 _ rfl).2
  have h3 : cJ = cA := Option.some.inj (h2.symm.trans h1)
  subst h3
  exact kk q H1 hP1 hD1 hS1
/-- the tables know the two array classes -/
theorem q_arr {t : FieldType} (h : (Cond.arrayClass t).before args s = true) : ∃ cA : ClassId, ArrOfT s cA t ∧ s.vm.findClass ("[" ++ t.toString) = some cA := by
  obtain ⟨cA, kA, comp, h1, h2, h3⟩ := Cond.arrayClass_spec h
  exact ⟨cA, fun n z => ⟨fun k h => (by cases h), kA, h2, comp, h3⟩, h1⟩
end RQ
