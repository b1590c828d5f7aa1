section
-- ===== PART A: goes FIRST, ahead of the names: the tables' words, and 'selects' of the private methods out of them =====
/-- a private method of a class that the tables say can be made, by its rows of tables_1 -/
def lw_okq (q : MethodName × Nat) : Prop := (q.1.cls ≠ "java/lang/invoke/MethodHandle" ∧ q.1.cls ≠ "java/lang/invoke/VarHandle") ∧ Cond.instantiable q.1.cls q.2 ∈ tables_1 ∧ Cond.privateMethod q.1 ∈ tables_1 ∧ Cond.instanceMethod q.1 ∈ tables_1
theorem lw_p0 : lw_okq (⟨"java/lang/Throwable", "fillInStackTrace", "(I)Ljava/lang/Throwable;"⟩, 6) := ⟨⟨by decide +kernel, by decide +kernel⟩, List.mem_of_getElem? (i := 85) (by decide +kernel), List.mem_of_getElem? (i := 83) (by decide +kernel), List.mem_of_getElem? (i := 84) (by decide +kernel)⟩
theorem lw_p1 : lw_okq (⟨"RankRows", "checkEntryOrNone", "(I)V"⟩, 4) := ⟨⟨by decide +kernel, by decide +kernel⟩, List.mem_of_getElem? (i := 11) (by decide +kernel), List.mem_of_getElem? (i := 119) (by decide +kernel), List.mem_of_getElem? (i := 120) (by decide +kernel)⟩
theorem lw_p2 : lw_okq (⟨"RankRows", "checkEntry", "(I)V"⟩, 4) := ⟨⟨by decide +kernel, by decide +kernel⟩, List.mem_of_getElem? (i := 11) (by decide +kernel), List.mem_of_getElem? (i := 123) (by decide +kernel), List.mem_of_getElem? (i := 124) (by decide +kernel)⟩
theorem lw_p3 : lw_okq (⟨"RankRows", "checkRoomFor", "(I)V"⟩, 4) := ⟨⟨by decide +kernel, by decide +kernel⟩, List.mem_of_getElem? (i := 11) (by decide +kernel), List.mem_of_getElem? (i := 143) (by decide +kernel), List.mem_of_getElem? (i := 144) (by decide +kernel)⟩
theorem lw_p4 : lw_okq (⟨"RankRows", "placeBehind", "(I)I"⟩, 4) := ⟨⟨by decide +kernel, by decide +kernel⟩, List.mem_of_getElem? (i := 11) (by decide +kernel), List.mem_of_getElem? (i := 163) (by decide +kernel), List.mem_of_getElem? (i := 164) (by decide +kernel)⟩
theorem lw_p5 : lw_okq (⟨"RankRows", "placeOf", "(I)I"⟩, 4) := ⟨⟨by decide +kernel, by decide +kernel⟩, List.mem_of_getElem? (i := 11) (by decide +kernel), List.mem_of_getElem? (i := 167) (by decide +kernel), List.mem_of_getElem? (i := 168) (by decide +kernel)⟩
theorem lw_p6 : lw_okq (⟨"RankRows", "putAt", "(IIII)V"⟩, 4) := ⟨⟨by decide +kernel, by decide +kernel⟩, List.mem_of_getElem? (i := 11) (by decide +kernel), List.mem_of_getElem? (i := 171) (by decide +kernel), List.mem_of_getElem? (i := 172) (by decide +kernel)⟩
theorem lw_p7 : lw_okq (⟨"RankRows", "sumInFrontOf", "(I[I)I"⟩, 4) := ⟨⟨by decide +kernel, by decide +kernel⟩, List.mem_of_getElem? (i := 11) (by decide +kernel), List.mem_of_getElem? (i := 209) (by decide +kernel), List.mem_of_getElem? (i := 210) (by decide +kernel)⟩
theorem lw_p8 : lw_okq (⟨"RankRowsModel", "behind0", "(IIII)I"⟩, 5) := ⟨⟨by decide +kernel, by decide +kernel⟩, List.mem_of_getElem? (i := 228) (by decide +kernel), List.mem_of_getElem? (i := 261) (by decide +kernel), List.mem_of_getElem? (i := 262) (by decide +kernel)⟩
theorem lw_p9 : lw_okq (⟨"RankRowsModel", "there", "(I)V"⟩, 5) := ⟨⟨by decide +kernel, by decide +kernel⟩, List.mem_of_getElem? (i := 228) (by decide +kernel), List.mem_of_getElem? (i := 281) (by decide +kernel), List.mem_of_getElem? (i := 282) (by decide +kernel)⟩
theorem lw_p10 : lw_okq (⟨"RankRowsModel", "inRow", "(I)I"⟩, 5) := ⟨⟨by decide +kernel, by decide +kernel⟩, List.mem_of_getElem? (i := 228) (by decide +kernel), List.mem_of_getElem? (i := 293) (by decide +kernel), List.mem_of_getElem? (i := 294) (by decide +kernel)⟩
theorem lw_p11 : lw_okq (⟨"RankRowsModel", "open", "(III)V"⟩, 5) := ⟨⟨by decide +kernel, by decide +kernel⟩, List.mem_of_getElem? (i := 228) (by decide +kernel), List.mem_of_getElem? (i := 297) (by decide +kernel), List.mem_of_getElem? (i := 298) (by decide +kernel)⟩
theorem lw_p12 : lw_okq (⟨"RankRowsModel", "before0", "(III)I"⟩, 5) := ⟨⟨by decide +kernel, by decide +kernel⟩, List.mem_of_getElem? (i := 228) (by decide +kernel), List.mem_of_getElem? (i := 305) (by decide +kernel), List.mem_of_getElem? (i := 306) (by decide +kernel)⟩
theorem lw_p13 : lw_okq (⟨"RankRowsModel", "weigh0", "(III)I"⟩, 5) := ⟨⟨by decide +kernel, by decide +kernel⟩, List.mem_of_getElem? (i := 228) (by decide +kernel), List.mem_of_getElem? (i := 313) (by decide +kernel), List.mem_of_getElem? (i := 314) (by decide +kernel)⟩
theorem lw_p14 : lw_okq (⟨"RankRowsModel", "find0", "(I)I"⟩, 5) := ⟨⟨by decide +kernel, by decide +kernel⟩, List.mem_of_getElem? (i := 228) (by decide +kernel), List.mem_of_getElem? (i := 321) (by decide +kernel), List.mem_of_getElem? (i := 322) (by decide +kernel)⟩
theorem lw_p15 : lw_okq (⟨"RankRowsModel", "sum0", "(II)I"⟩, 5) := ⟨⟨by decide +kernel, by decide +kernel⟩, List.mem_of_getElem? (i := 228) (by decide +kernel), List.mem_of_getElem? (i := 329) (by decide +kernel), List.mem_of_getElem? (i := 330) (by decide +kernel)⟩
def lw_privs_1 : List (MethodName × Nat) := [(⟨"java/lang/Throwable", "fillInStackTrace", "(I)Ljava/lang/Throwable;"⟩, 6), (⟨"RankRows", "checkEntryOrNone", "(I)V"⟩, 4), (⟨"RankRows", "checkEntry", "(I)V"⟩, 4), (⟨"RankRows", "checkRoomFor", "(I)V"⟩, 4), (⟨"RankRows", "placeBehind", "(I)I"⟩, 4), (⟨"RankRows", "placeOf", "(I)I"⟩, 4), (⟨"RankRows", "putAt", "(IIII)V"⟩, 4), (⟨"RankRows", "sumInFrontOf", "(I[I)I"⟩, 4), (⟨"RankRowsModel", "behind0", "(IIII)I"⟩, 5), (⟨"RankRowsModel", "there", "(I)V"⟩, 5), (⟨"RankRowsModel", "inRow", "(I)I"⟩, 5), (⟨"RankRowsModel", "open", "(III)V"⟩, 5), (⟨"RankRowsModel", "before0", "(III)I"⟩, 5), (⟨"RankRowsModel", "weigh0", "(III)I"⟩, 5), (⟨"RankRowsModel", "find0", "(I)I"⟩, 5), (⟨"RankRowsModel", "sum0", "(II)I"⟩, 5)]
theorem lw_r1 : ∀ q ∈ lw_privs_1, lw_okq q := List.forall_mem_cons.mpr ⟨lw_p0, List.forall_mem_cons.mpr ⟨lw_p1, List.forall_mem_cons.mpr ⟨lw_p2, List.forall_mem_cons.mpr ⟨lw_p3, List.forall_mem_cons.mpr ⟨lw_p4, List.forall_mem_cons.mpr ⟨lw_p5, List.forall_mem_cons.mpr ⟨lw_p6, List.forall_mem_cons.mpr ⟨lw_p7, List.forall_mem_cons.mpr ⟨lw_p8, List.forall_mem_cons.mpr ⟨lw_p9, List.forall_mem_cons.mpr ⟨lw_p10, List.forall_mem_cons.mpr ⟨lw_p11, List.forall_mem_cons.mpr ⟨lw_p12, List.forall_mem_cons.mpr ⟨lw_p13, List.forall_mem_cons.mpr ⟨lw_p14, List.forall_mem_cons.mpr ⟨lw_p15, fun _ h => absurd h List.not_mem_nil⟩⟩⟩⟩⟩⟩⟩⟩⟩⟩⟩⟩⟩⟩⟩⟩
theorem lw_p16 : lw_okq (⟨"RankRowsModel", "next0", "(I)I"⟩, 5) := ⟨⟨by decide +kernel, by decide +kernel⟩, List.mem_of_getElem? (i := 228) (by decide +kernel), List.mem_of_getElem? (i := 337) (by decide +kernel), List.mem_of_getElem? (i := 338) (by decide +kernel)⟩
theorem lw_p17 : lw_okq (⟨"RankRowsModel", "place0", "(I)I"⟩, 5) := ⟨⟨by decide +kernel, by decide +kernel⟩, List.mem_of_getElem? (i := 228) (by decide +kernel), List.mem_of_getElem? (i := 345) (by decide +kernel), List.mem_of_getElem? (i := 346) (by decide +kernel)⟩
theorem lw_p18 : lw_okq (⟨"RankRowsModel", "entries0", "()I"⟩, 5) := ⟨⟨by decide +kernel, by decide +kernel⟩, List.mem_of_getElem? (i := 228) (by decide +kernel), List.mem_of_getElem? (i := 353) (by decide +kernel), List.mem_of_getElem? (i := 354) (by decide +kernel)⟩
def lw_privs_2 : List (MethodName × Nat) := [(⟨"RankRowsModel", "next0", "(I)I"⟩, 5), (⟨"RankRowsModel", "place0", "(I)I"⟩, 5), (⟨"RankRowsModel", "entries0", "()I"⟩, 5)]
theorem lw_r2 : ∀ q ∈ lw_privs_2, lw_okq q := List.forall_mem_cons.mpr ⟨lw_p16, List.forall_mem_cons.mpr ⟨lw_p17, List.forall_mem_cons.mpr ⟨lw_p18, fun _ h => absurd h List.not_mem_nil⟩⟩⟩
def lw_privs : List (MethodName × Nat) := lw_privs_1 ++ (lw_privs_2)
def lw_tbl : List Cond := k2_sels lw_privs ++ tables_1
theorem lw_privs_ok : ∀ q ∈ lw_privs, lw_okq q := by
  show ∀ q ∈ lw_privs_1 ++ (lw_privs_2), lw_okq q
  exact List.forall_mem_append.mpr ⟨lw_r1, lw_r2⟩
end
section
/-! ===== BEGIN words of one list among another's, by their places ===== -/
theorem goodIn_r {big : List Cond} (ws : List Cond) (ps : List Nat) (hp : ws = ps.filterMap (fun i => big[i]?)) (h : ws.all goodWord = true) : GoodIn big ws := by
  intro w hw
  have h1 := List.all_eq_true.mp h w hw
  rw [hp] at hw
  obtain ⟨i, -, hi⟩ := List.mem_filterMap.mp hw
  have hm : w ∈ big := by first | exact List.mem_of_getElem? hi | exact List.getElem?_mem hi
  exact ⟨hm, good_of_word h1⟩
theorem goodIn_app {big a b : List Cond} (ha : GoodIn big a) (hb : GoodIn big b) : GoodIn big (a ++ b) := fun w h => (List.mem_append.mp h).elim (ha w) (hb w)
theorem goodIn_ca {big a b : List Cond} {c : Cond} (ha : GoodIn big (c :: a)) (hb : GoodIn big b) : GoodIn big (c :: (a ++ b)) := fun w h => (List.mem_cons.mp h).elim (fun e => ha w (List.mem_cons.mpr (Or.inl e))) (fun h => (List.mem_append.mp h).elim (fun h => ha w (List.mem_cons.mpr (Or.inr h))) (hb w))
theorem goodIn_sub {big ws : List Cond} (hm : ∀ w ∈ ws, w ∈ big) (h : ws.all goodWord = true) : GoodIn big ws := fun w hw => ⟨hm w hw, good_of_word (List.all_eq_true.mp h w hw)⟩
/-! ===== END ===== -/

/-! ===== BEGIN exceptions that leave a method, and their catching by the caller (launches without stack traces) ===== -/
section VXA
/-! The laws vx_back, vx_callV, vx_callS, vx_callSW, vx_throw0, vx_throwS follow proofs of the library, with one case more: JvmDerived/Free/Laws.lean (Back.of_free), Shelf42/LK1.lean (callV, callS), Shelf/KitTraced.lean (throwNew0V, throwNewS). -/
/-- where a method has thrown q: the class by its name, the cell, what was written, the world -/
def vx_T (XC : String → State → State → Prop) (st : State) (q : Addr) (t : State) (mc ms : Nat) (free : Addr → Prop) : Prop :=
  ∃ (E : String) (ce : Cell) (L : List Loc), XC E st t ∧ t.heap[q]? = some ce ∧ ce.vm = .none ∧ st.vm.findClass E = some ce.cls ∧ st.WarmedH t.vm ∧ st.sameButNew ({ t with vm := st.vm } : State) L mc ms ∧ ∀ z ∈ L, free z.base
def vx_Q (Qc : Array Value → State → Outcome → State → Prop) (XC : String → State → State → Prop) (mc ms : Nat) (free : Addr → Prop) : Array Value → State → Outcome → State → Prop := fun a st o t =>
  (Qc a st o t ∧ ∃ L, FrameEnd st o t L mc ms ∧ ∀ q ∈ L, free q.base) ∨ ∃ q, o = .threw q ∧ vx_T XC st q t mc ms free
/-- a callee that returns or throws -/
def vx_Met (l : Launch) (y : MethodName) (ws : List Cond) (rm : Room) (Pc : Array Value → State → Prop) (Qc : Array Value → State → Outcome → State → Prop) (XC : String → State → State → Prop) (mc ms : Nat) (free : Addr → Prop) : Prop :=
  MetFree l y (headSpec ws rm) Pc (fun _ _ _ _ _ => True) (vx_Q Qc XC mc ms free)
def vx_Post (XC : String → State → State → Prop) (mc ms : Nat) (free : Addr → Prop) : Pt → Array Value → Addr → Pt → Prop := fun A a q B =>
  ∃ (g : JFrame) (mk : MethodId) (t : State) (L : List Loc) (E : String) (ce : Cell), B.U.heap = t.heap ∧ B.U.vm = t.vm ∧ XC E (A.U.calling g mk a) t ∧ t.heap[q]? = some ce ∧ ce.vm = .none ∧ A.U.vm.findClass E = some ce.cls ∧ B.locs = A.locs ++ L ∧ (∀ z ∈ L, free z.base) ∧ B.cells = A.cells + mc ∧ B.slots = A.slots + ms
def vx_Back (l : Launch) (R : Room) (p : Program) (e : Env) (below : List Frame) (s : State) (sargs : Array Value) (y : MethodName) (len W9 : Nat)
    (Pre : Pt → Array Value → Prop) (Post : Pt → Array Value → Option Value → Pt → Prop) (PostX : Pt → Array Value → Addr → Pt → Prop) : Prop :=
  ∀ (m : MethodId) (meth : Method) (c : Code) (A : Pt) (g : JFrame) (ig : Instr) (mk : MethodId) (a : Array Value),
    Stand p l e R s m sargs below meth c A.U A.locs A.cells A.slots → g.method = m → g.locals.size = c.maxLocals → decode c.code g.pc = .ok (ig, len) →
    2 * g.monitorRoom + (g.stack.map fun v => v.category).sum ≤ W9 → A.U.methodNamed? y = some mk → Pre A a →
    (∃ (v : Option Value) (B : Pt), Stand p l e R s m sargs below meth c B.U B.locs B.cells B.slots ∧ Post A a v B ∧
      Steps p.tables e below (doInvoke e (A.U.setTop g) [] mk a).1 (B.U.setTop { g with pc := g.pc + len, stack := v.toList ++ g.stack })) ∨
    (∃ (q : Addr) (B : Pt), Stand p l e R s m sargs below meth c B.U B.locs B.cells B.slots ∧ PostX A a q B ∧
      Steps p.tables e below (doInvoke e (A.U.setTop g) [] mk a).1 ((B.U.setTop g).pushFrame (.throwing q)))
section Payer
variable {l : Launch} {R : Room} {p : Program} {e : Env} {below : List Frame} {s : State} {sargs : Array Value} {y : MethodName} {len W9 : Nat}
theorem vx_back {ws : List Cond} {rm : Room} {Pc : Array Value → State → Prop} {Qc : Array Value → State → Outcome → State → Prop} {XC : String → State → State → Prop} {mc ms : Nat} {free : Addr → Prop} {bytes : ByteArray} {maxL : Nat} {ret : Option FieldType}
    (hM : vx_Met l y ws rm Pc Qc XC mc ms free) (hblind : FrameBlind Pc) (hrc : rm.cells = mc) (hrs : rm.slots = ms)
    (hframes : rm.frames + 1 ≤ R.frames) (hlocals : W9 + (maxL + 11) + rm.locals ≤ R.locals)
    (hws : ∀ w ∈ ws, ∀ a' U, s.WarmedH U.vm → w.before a' U = true) (hcode : Cond.code y bytes maxL ret ∈ ws) (hinit : ∀ a' U, s.WarmedH U.vm → (Cond.initialized y.cls).before a' U = true) :
    vx_Back l R p e below s sargs y len W9 (PreOf R mc ms Pc) (PostOf Qc mc ms free) (vx_Post XC mc ms free) := by
  intro m meth c A g ig mk a X hg hsize hdg hW hn hp
  have h1 : (headSpec ws rm).pre.before a A.U = true := atoms_intro fun w hw => hws w hw _ _ X.warmed
  have h2 : (Cond.code y bytes maxL ret).before a A.U = true := hws _ hcode _ _ X.warmed
  have h3 : (Cond.initialized y.cls).before a A.U = true := hinit _ _ X.warmed
  have h4 : A.cells + (headSpec ws rm).room.cells ≤ R.cells := by rw [show (headSpec ws rm).room.cells = mc from hrc]; exact hp.1
  have h5 : A.slots + (headSpec ws rm).room.slots ≤ R.slots := by rw [show (headSpec ws rm).room.slots = ms from hrs]; exact hp.2.1
  have hPc : Pc a (A.U.calling g mk a) := hblind _ _ _ _ hp.2.2
  obtain ⟨U, Ls, c0, s0⟩ := A
  dsimp only [Pt.U, Pt.locs, Pt.cells, Pt.slots] at h1 h2 h3 h4 h5 X hn hPc ⊢
  obtain ⟨methY, cY, hmY, hcY, -, hlY, -, -, -, -⟩ := Cond.code_spec hn h2
  obtain ⟨kY, hkY, -⟩ := className_of_methodNamed hn
  have hinitY : kY.init = .initialized := Cond.initialized_spec (findClass_of_methodNamed hn) hkY h3
  have h : At U g.method c below := by rw [hg]; exact X.here
  have hlocals9 : W9 + (maxL + 11) + (headSpec ws rm).room.locals ≤ R.locals := hlocals
  have happ : (headSpec ws rm).appliesLoose y e.platform (U.calling g mk a) = true :=
    Spec.appliesLoose_calling (g := g) h hdg hn hkY hinitY
      (X.room_calling (g := g) (R' := (headSpec ws rm).room) hsize hmY hcY hframes (by rw [hlY]; omega) h4 h5) h1
  obtain ⟨mid, hmid⟩ := h.above
  have hfr : (U.setTop g).frames = (.java g :: mid) ++ below := by rw [State.frames_setTop' g h.top, hmid]; rfl
  obtain ⟨o, s₂, hsteps, -, hend, hq⟩ := Steps.callFree hM p X.admits X.cas X.clock (acts := []) hfr happ hPc trivial
  have hq' : vx_Q Qc XC mc ms free a (U.calling g mk a) o s₂ := hq
  rw [State.frames_setTop' g h.top] at hend
  obtain ⟨g₀, hg0⟩ := Option.isSome_iff_exists.mp h.top
  obtain ⟨r, hr⟩ := State.topJava?_eq_some.mp hg0
  have hr' : (({ U with heap := s₂.heap, slotsUsed := s₂.slotsUsed } : State).setVm s₂.vm).frames = .java g₀ :: r := hr
  rcases hq' with ⟨hqc, L, hfe, hL⟩ | ⟨q, rfl, E, ce, L, hx, hce, hcv, hcl, hW₂, hsm, hL⟩
  · obtain ⟨⟨v, rfl⟩, hW₂, e2, q2, q3, q4, q5, q6⟩ := id hfe
    have e3 : s₂ = ({ (U.calling g mk a).setFrames s₂.frames with heap := s₂.heap, slotsUsed := s₂.slotsUsed } : State).setVm s₂.vm := by
      have : s₂ = ({ s₂ with vm := (U.calling g mk a).vm } : State).setVm s₂.vm := rfl
      rw [e2] at this
      exact this
    obtain ⟨c₂, i₂, len₂, hc₂, hd₂, hf₂⟩ := hend
    have hW' : U.WarmedH s₂.vm := hW₂
    have hcc : c₂ = c := by
      have h1 : s₂.code? g.method = U.code? g.method := by
        rw [State.code?_eq, State.code?_eq, hW'.alike.method?]
      exact Option.some.inj (hc₂.symm.trans (h1.trans h.code))
    subst hcc
    have hlen : len₂ = len := by rw [hdg] at hd₂; cases hd₂; rfl
    subst hlen
    have hs₂ : s₂ = (({ U with heap := s₂.heap, slotsUsed := s₂.slotsUsed } : State).setVm s₂.vm).setTop { g with pc := g.pc + len₂, stack := v.toList ++ g.stack } := by
      refine e3.trans ?_
      rw [hf₂, State.calling_eq h.top, State.setFrames_setFrames, State.setTop_of_frames _ hr', hr]
      rfl
    have hsame : U.sameButNew ({ U with heap := s₂.heap, slotsUsed := s₂.slotsUsed } : State) L mc ms := by
      refine ⟨?_, q2, q3, q4, q5, q6⟩
      obtain ⟨t, ht, -⟩ := State.frames_cons hr
      show ({ U with heap := s₂.heap, slotsUsed := s₂.slotsUsed } : State) = { U.setFrames U.frames with heap := s₂.heap, slotsUsed := s₂.slotsUsed }
      rw [State.setFrames_self ht]
    subst hg
    refine Or.inl ⟨v, ⟨(({ U with heap := s₂.heap, slotsUsed := s₂.slotsUsed } : State).setVm s₂.vm), Ls ++ L, c0 + mc, s0 + ms⟩,
      ⟨X.admits, X.cas, X.clock, X.frames, X.room, X.hears, X.method, X.code, (X.here.setHeapUsed s₂.heap s₂.slotsUsed).setVm hW'.alike, X.tail, State.WarmedH.trans X.warmed hW', X.limits, X.bytes, X.same.trans (hsame.setVm s.vm)⟩,
      ⟨g, mk, s₂, L, rfl, rfl, hqc, rfl, hL, rfl, rfl⟩, ?_⟩
    show Steps p.tables e below _ ((({ U with heap := s₂.heap, slotsUsed := s₂.slotsUsed } : State).setVm s₂.vm).setTop { g with pc := g.pc + len₂, stack := v.toList ++ g.stack })
    rw [← hs₂]
    exact hsteps
  · obtain ⟨e2, q2, q3, q4, q5, q6⟩ := id hsm
    have e3 : s₂ = ({ (U.calling g mk a).setFrames s₂.frames with heap := s₂.heap, slotsUsed := s₂.slotsUsed } : State).setVm s₂.vm := by
      have : s₂ = ({ s₂ with vm := (U.calling g mk a).vm } : State).setVm s₂.vm := rfl
      rw [e2] at this
      exact this
    have hf₂ : s₂.frames = .throwing q :: .java g :: U.frames.tail := hend
    have hW' : U.WarmedH s₂.vm := hW₂
    have hs₂ : s₂ = ((({ U with heap := s₂.heap, slotsUsed := s₂.slotsUsed } : State).setVm s₂.vm).setTop g).pushFrame (.throwing q) := by
      refine e3.trans ?_
      rw [hf₂, State.calling_eq h.top, State.setFrames_setFrames, State.pushFrame, State.frames_setTop _ hr', State.setTop_of_frames _ hr', State.setFrames_setFrames, hr]
      rfl
    have hsame : U.sameButNew ({ U with heap := s₂.heap, slotsUsed := s₂.slotsUsed } : State) L mc ms := by
      refine ⟨?_, q2, q3, q4, q5, q6⟩
      obtain ⟨t, ht, -⟩ := State.frames_cons hr
      show ({ U with heap := s₂.heap, slotsUsed := s₂.slotsUsed } : State) = { U.setFrames U.frames with heap := s₂.heap, slotsUsed := s₂.slotsUsed }
      rw [State.setFrames_self ht]
    subst hg
    refine Or.inr ⟨q, ⟨(({ U with heap := s₂.heap, slotsUsed := s₂.slotsUsed } : State).setVm s₂.vm), Ls ++ L, c0 + mc, s0 + ms⟩,
      ⟨X.admits, X.cas, X.clock, X.frames, X.room, X.hears, X.method, X.code, (X.here.setHeapUsed s₂.heap s₂.slotsUsed).setVm hW'.alike, X.tail, State.WarmedH.trans X.warmed hW', X.limits, X.bytes, X.same.trans (hsame.setVm s.vm)⟩,
      ⟨g, mk, s₂, L, E, ce, rfl, rfl, hx, hce, hcv, hcl, rfl, hL, rfl, rfl⟩, ?_⟩
    show Steps p.tables e below _ (((({ U with heap := s₂.heap, slotsUsed := s₂.slotsUsed } : State).setVm s₂.vm).setTop g).pushFrame (.throwing q))
    rw [← hs₂]
    exact hsteps
end Payer
section Calls
variable {p : Program} {l : Launch} {e : Env} {R : Room} {s : State} {m : MethodId} {args : Array Value} {below : List Frame} {meth : Method} {c : Code} {T : State} {locs : List Loc} {cells slots : Nat}
theorem vx_callV (X : Stand p l e R s m args below meth c T locs cells slots) (hexec : p.tables.exec = Jvm.exec) {own C : String} {index : Nat} {y : MethodName} {bytes : ByteArray} {maxL : Nat} {ret : Option FieldType}
    (hown : s.vm.findClass own = some m.cls) (hlink : (Cond.methodLink own index y).before args s = true) (hinst : (Cond.instanceMethod y).before args s = true) (hsel : (Cond.selects C y y).before args s = true)
    (hcode : (Cond.code y bytes maxL ret).before args s = true) (hy : y.cls ≠ "java/lang/invoke/MethodHandle" ∧ y.cls ≠ "java/lang/invoke/VarHandle")
    {W9 : Nat} {Pre : Pt → Array Value → Prop} {Post : Pt → Array Value → Option Value → Pt → Prop} {PostX : Pt → Array Value → Addr → Pt → Prop} (hK : vx_Back l R p e below s args y 3 W9 Pre Post PostX)
    {b : Addr} {cellB : Cell} (hcell : T.heap[b]? = some cellB) (hobj : cellB.vm.isStatics = false) (hcls : s.vm.findClass C = some cellB.cls)
    {g : JFrame} (hg : g.method = m) (hsize : g.locals.size = c.maxLocals) {argsL rest : List Value} (hlen : ∀ sig, parseMethodDescriptor y.desc = some sig → argsL.length = sig.parameters.length)
    (hstack : g.stack = argsL.reverse ++ .ref b :: rest) (hW : 2 * g.monitorRoom + (rest.map fun v => v.category).sum ≤ W9) (hdg : decode c.code g.pc = .ok (.invokevirtual index, 3))
    (hpre : ∀ vm₁, s.WarmedH vm₁ → Pre ⟨T.setVm vm₁, locs, cells, slots⟩ (Value.ref b :: argsL).toArray) :
    (∃ (v : Option Value) (vm₁ : Vm) (B : Pt), s.WarmedH vm₁ ∧ Stand p l e R s m args below meth c B.U B.locs B.cells B.slots ∧ Post ⟨T.setVm vm₁, locs, cells, slots⟩ (Value.ref b :: argsL).toArray v B ∧
      ∀ target, Steps p.tables e below (B.U.setTop { g with pc := g.pc + 3, stack := v.toList ++ rest }) target → Steps p.tables e below (T.setTop g) target) ∨
    (∃ (q : Addr) (vm₁ : Vm) (B : Pt), s.WarmedH vm₁ ∧ Stand p l e R s m args below meth c B.U B.locs B.cells B.slots ∧ PostX ⟨T.setVm vm₁, locs, cells, slots⟩ (Value.ref b :: argsL).toArray q B ∧
      Steps p.tables e below (T.setTop g) ((B.U.setTop { g with stack := rest }).pushFrame (.throwing q))) := by
  obtain ⟨mk, methM, hnamed, hmethM, hstM, habM⟩ := Cond.instanceMethod_spec hinst
  obtain ⟨methM', cM, hmethM', -, -, -, -, -, -, hsigM⟩ := Cond.code_spec hnamed hcode
  cases hmethM.symm.trans hmethM'
  obtain ⟨c2, r2, m2, q1, q2, q3, q4, kP, hkP, hkPi⟩ := Cond.selects_spec hsel
  cases hcls.symm.trans q1
  cases (State.methodFound?_of_named hnamed hy).symm.trans q2
  cases hnamed.symm.trans q3
  have hselP : selectMethod e.platform s.vm cellB.cls mk = .method mk := by rw [Launch.admits_selectMethod X.admits]; exact q4
  obtain ⟨vm₁, X₁, hstep₁⟩ := X.invokevirtual hexec hown hlink hnamed hmethM hstM hkP hkPi hy (a := b) (cell := cellB) hcell
    (fun z h => by rw [h] at hobj; cases hobj) hselP hmethM habM hkP hkPi (g := g) hg (argsL := argsL) (rest := rest) (hlen _ hsigM) hstack hdg
  rcases hK m meth c ⟨T.setVm vm₁, locs, cells, slots⟩ { g with stack := rest } (.invokevirtual index) mk (Value.ref b :: argsL).toArray X₁ hg hsize hdg hW (X₁.named hnamed) (hpre vm₁ X₁.warmed) with ⟨v, B, X', hpost, hsteps⟩ | ⟨q, B, X', hpost, hsteps⟩
  · exact Or.inl ⟨v, vm₁, B, X₁.warmed, X', hpost, fun target h => hstep₁ _ fun acts => by rw [doInvoke_state]; exact hsteps.trans h⟩
  · exact Or.inr ⟨q, vm₁, B, X₁.warmed, X', hpost, hstep₁ _ fun acts => by rw [doInvoke_state]; exact hsteps⟩
theorem vx_callS (X : Stand p l e R s m args below meth c T locs cells slots) (hexec : p.tables.exec = Jvm.exec) {own : String} {index : Nat} {y : MethodName} {bytes : ByteArray} {maxL : Nat} {ret : Option FieldType}
    (hown : s.vm.findClass own = some m.cls) (hlink : (Cond.methodLink own index y).before args s = true) (hstat : (Cond.static y).before args s = true) (hinit : (Cond.initialized y.cls).before args s = true)
    (hcode : (Cond.code y bytes maxL ret).before args s = true) (hy : y.cls ≠ "java/lang/invoke/MethodHandle" ∧ y.cls ≠ "java/lang/invoke/VarHandle")
    {W9 : Nat} {Pre : Pt → Array Value → Prop} {Post : Pt → Array Value → Option Value → Pt → Prop} {PostX : Pt → Array Value → Addr → Pt → Prop} (hK : vx_Back l R p e below s args y 3 W9 Pre Post PostX)
    {g : JFrame} (hg : g.method = m) (hsize : g.locals.size = c.maxLocals) {argsL rest : List Value} (hlen : ∀ sig, parseMethodDescriptor y.desc = some sig → argsL.length = sig.parameters.length)
    (hstack : g.stack = argsL.reverse ++ rest) (hW : 2 * g.monitorRoom + (rest.map fun v => v.category).sum ≤ W9) (hdg : decode c.code g.pc = .ok (.invokestatic index, 3))
    (hpre : ∀ vm₁, s.WarmedH vm₁ → Pre ⟨T.setVm vm₁, locs, cells, slots⟩ argsL.toArray) :
    (∃ (v : Option Value) (vm₁ : Vm) (B : Pt), s.WarmedH vm₁ ∧ Stand p l e R s m args below meth c B.U B.locs B.cells B.slots ∧ Post ⟨T.setVm vm₁, locs, cells, slots⟩ argsL.toArray v B ∧
      ∀ target, Steps p.tables e below (B.U.setTop { g with pc := g.pc + 3, stack := v.toList ++ rest }) target → Steps p.tables e below (T.setTop g) target) ∨
    (∃ (q : Addr) (vm₁ : Vm) (B : Pt), s.WarmedH vm₁ ∧ Stand p l e R s m args below meth c B.U B.locs B.cells B.slots ∧ PostX ⟨T.setVm vm₁, locs, cells, slots⟩ argsL.toArray q B ∧
      Steps p.tables e below (T.setTop g) ((B.U.setTop { g with stack := rest }).pushFrame (.throwing q))) := by
  obtain ⟨mk, hnamed⟩ := Cond.code_named hcode
  obtain ⟨methM, cM, hmethM, -, -, -, -, -, -, hsigM⟩ := Cond.code_spec hnamed hcode
  have hstatic : methM.isStatic = true := Cond.static_spec hnamed hmethM hstat
  obtain ⟨kP, hkP, -⟩ := className_of_methodNamed hnamed
  have hinitP : kP.init = .initialized := Cond.initialized_spec (findClass_of_methodNamed hnamed) hkP hinit
  obtain ⟨vm₁, X₁, hstep₁⟩ := X.invokestatic hexec hown hlink hnamed hmethM hstatic hkP hinitP hy (g := g) hg (argsL := argsL) (rest := rest) (hlen _ hsigM) hstack hdg
  rcases hK m meth c ⟨T.setVm vm₁, locs, cells, slots⟩ { g with stack := rest } (.invokestatic index) mk argsL.toArray X₁ hg hsize hdg hW (X₁.named hnamed) (hpre vm₁ X₁.warmed) with ⟨v, B, X', hpost, hsteps⟩ | ⟨q, B, X', hpost, hsteps⟩
  · exact Or.inl ⟨v, vm₁, B, X₁.warmed, X', hpost, fun target h => hstep₁ _ fun acts => by rw [doInvoke_state]; exact hsteps.trans h⟩
  · exact Or.inr ⟨q, vm₁, B, X₁.warmed, X', hpost, hstep₁ _ fun acts => by rw [doInvoke_state]; exact hsteps⟩
end Calls
theorem vx_cls {s : State} {T : State} {vm₁ : Vm} {E : String} {k : ClassId} (hW : s.WarmedH vm₁) (h : (T.setVm vm₁).vm.findClass E = some k) : s.vm.findClass E = some k := by
  have h1 : vm₁.findClass E = some k := h
  rw [hW.alike.findClass] at h1
  exact h1
/-- the method's frame g, with q thrown over it -/
def vx_W (p : Program) (l : Launch) (e : Env) (R : Room) (s : State) (m : MethodId) (args : Array Value) (below : List Frame) (meth : Method) (c : Code) (H : Heap) (locs : List Loc) (cells slots : Nat) (Q : State → Prop) (g : JFrame) (q : Addr) : Prop :=
  ∀ T : State, T.heap = H → Stand p l e R s m args below meth c T locs cells slots → ∃ t, Steps p.tables e below ((T.setTop g).pushFrame (.throwing q)) t ∧ Q t
def vx_Run (p : Program) (l : Launch) (e : Env) (R : Room) (s : State) (m : MethodId) (args : Array Value) (below : List Frame) (meth : Method) (c : Code) (H : Heap) (locs : List Loc) (cells slots mc ms : Nat) (g : JFrame) (rest : List Value) (Qa : State → Outcome → State → Prop) (XC : String → State → State → Prop) (free : Addr → Prop) : Prop :=
  ∀ T : State, T.heap = H → Stand p l e R s m args below meth c T locs cells slots →
    (∃ (v : Option Value) (st₀ t T' : State) (L : List Loc), st₀.heap = H ∧ Stand p l e R s m args below meth c T' (locs ++ L) (cells + mc) (slots + ms) ∧ (∀ q ∈ L, free q.base) ∧ T'.heap = t.heap ∧ T'.vm = t.vm ∧ Qa st₀ (.returned v) t ∧
      Goes p e below T g T' { g with pc := g.pc + 3, stack := v.toList ++ rest }) ∨
    (∃ (q : Addr) (st₀ t T' : State) (L : List Loc) (E : String) (ce : Cell), st₀.heap = H ∧ Stand p l e R s m args below meth c T' (locs ++ L) (cells + mc) (slots + ms) ∧ (∀ z ∈ L, free z.base) ∧ T'.heap = t.heap ∧ T'.vm = t.vm ∧ XC E st₀ t ∧ t.heap[q]? = some ce ∧ ce.vm = .none ∧ s.vm.findClass E = some ce.cls ∧
      Steps p.tables e below (T.setTop g) ((T'.setTop { g with stack := rest }).pushFrame (.throwing q)))
def vx_X {S : Type} (px : S → Prop) (B : String → S → State → Prop) (A : Nat → Prop) : String → State → State → Prop := fun E st t => ∃ u : S, px u ∧ B E u t ∧ va_F A st t
section Runs
variable {p : Program} {l : Launch} {e : Env} {R : Room} {s : State} {m : MethodId} {args : Array Value} {below : List Frame} {meth : Method} {c : Code} {H : Heap} {locs : List Loc} {cells slots : Nat}
variable {y : MethodName} {bytes cc : ByteArray} {maxL nL mc ms n index : Nat} {ret : Option FieldType} {ws : List Cond} {rm : Room} {Pc : Array Value → State → Prop} {Qc : Array Value → State → Outcome → State → Prop} {XC : String → State → State → Prop} {free : Addr → Prop} {Ts : List Cond} {own C : String} {b : Addr} {As rest : List Value} {g : JFrame}
theorem vx_callBack (cb : CallB R s args own index y bytes maxL ret ws rm mc ms n) (hM : vx_Met l y ws rm Pc Qc XC mc ms free) (hbl : FrameBlind Pc) : vx_Back l R p e below s args y 3 8 (PreOf R mc ms Pc) (PostOf Qc mc ms free) (vx_Post XC mc ms free) := by
  obtain ⟨hrc, hrs, hfr, hlo, hws, hcw, -, hini, -⟩ := cb
  exact vx_back (bytes := bytes) (maxL := maxL) (ret := ret) hM hbl hrc hrs hfr hlo hws hcw (fun a' U hW => word_at hW (Or.inl (by first | rfl | simp [Cond.onTables, Cond.keeps, Cond.steady])) hini)
theorem vx_runV (S : CallFix p m c cc nL s args Ts own) (hM : vx_Met l y ws rm Pc Qc XC mc ms free) (cw : CallW R s args own C index y bytes maxL ret ws rm mc ms n) (hp : PreV s H C b Pc As)
    (hg : g.method = m) (hn : As.length = n) (hsize : g.locals.size = nL) (hstack : g.stack = As.reverse ++ .ref b :: rest) (hW : 2 * g.monitorRoom + (rest.map fun v => v.category).sum ≤ 8) (hdg : decode cc g.pc = .ok (.invokevirtual index, 3)) (hf : cells + mc ≤ R.cells ∧ slots + ms ≤ R.slots) :
    vx_Run p l e R s m args below meth c H locs cells slots mc ms g rest (Qc (Value.ref b :: As).toArray) XC free := by
  have hK : vx_Back l R p e below s args y 3 8 (PreOf R mc ms Pc) (PostOf Qc mc ms free) (vx_Post XC mc ms free) := vx_callBack cw.1 hM hp.1
  obtain ⟨⟨-, -, -, -, -, -, hcode, -, hy, hlen, hl⟩, hin, hse⟩ := cw
  obtain ⟨hx, hb, hml, ho, -⟩ := S
  obtain ⟨-, ⟨cellB, hcB, hoB, hclB⟩, hPc⟩ := hp
  intro T hT X
  rcases vx_callV X hx (C := C) (bytes := bytes) (maxL := maxL) (ret := ret) ho hl hin hse hcode hy hK (by rw [hT]; exact hcB) hoB hclB hg (hsize.trans hml.symm) (argsL := As) (rest := rest) (fun sig h => hn.trans (hlen sig h)) hstack hW (by rw [hb]; exact hdg)
    (fun vm₁ hW₁ => ⟨hf.1, hf.2, hPc (T.setVm vm₁) hT hW₁⟩) with ⟨v, vm₁, ⟨U', l2, c2, s2⟩, hW₁, X', ⟨g', mk, t, L, e1, e2, hq, h1, hL, h2, h3⟩, st⟩ | ⟨q, vm₁, ⟨U', l2, c2, s2⟩, hW₁, X', ⟨g', mk, t, L, E, ce, e1, e2, hq, hce, hcv, hcl, h1, hL, h2, h3⟩, st⟩
  · dsimp only [Pt.U, Pt.locs, Pt.cells, Pt.slots] at X' e1 e2 h1 h2 h3 st
    subst h1; subst h2; subst h3
    exact Or.inl ⟨v, (T.setVm vm₁).calling g' mk (Value.ref b :: As).toArray, t, U', L, hT, X', hL, e1, e2, hq, st⟩
  · dsimp only [Pt.U, Pt.locs, Pt.cells, Pt.slots] at X' e1 e2 h1 h2 h3 st hcl
    subst h1; subst h2; subst h3
    exact Or.inr ⟨q, (T.setVm vm₁).calling g' mk (Value.ref b :: As).toArray, t, U', L, E, ce, hT, X', hL, e1, e2, hq, hce, hcv, vx_cls hW₁ hcl, st⟩
theorem vx_runS (S : CallFix p m c cc nL s args Ts own) (hM : vx_Met l y ws rm Pc Qc XC mc ms free) (cw : CallB R s args own index y bytes maxL ret ws rm mc ms n ∧ (Cond.static y).before args s = true) (hp : PreS s H Pc As)
    (hg : g.method = m) (hn : As.length = n) (hsize : g.locals.size = nL) (hstack : g.stack = As.reverse ++ rest) (hW : 2 * g.monitorRoom + (rest.map fun v => v.category).sum ≤ 8) (hdg : decode cc g.pc = .ok (.invokestatic index, 3)) (hf : cells + mc ≤ R.cells ∧ slots + ms ≤ R.slots) :
    vx_Run p l e R s m args below meth c H locs cells slots mc ms g rest (Qc As.toArray) XC free := by
  have hK : vx_Back l R p e below s args y 3 8 (PreOf R mc ms Pc) (PostOf Qc mc ms free) (vx_Post XC mc ms free) := vx_callBack cw.1 hM hp.1
  obtain ⟨⟨-, -, -, -, -, -, hcode, hini, hy, hlen, hl⟩, hstt⟩ := cw
  obtain ⟨hx, hb, hml, ho, -⟩ := S
  intro T hT X
  rcases vx_callS X hx (bytes := bytes) (maxL := maxL) (ret := ret) ho hl hstt hini hcode hy hK hg (hsize.trans hml.symm) (argsL := As) (rest := rest) (fun sig h => hn.trans (hlen sig h)) hstack hW (by rw [hb]; exact hdg)
    (fun vm₁ hW₁ => ⟨hf.1, hf.2, hp.2 (T.setVm vm₁) hT hW₁⟩) with ⟨v, vm₁, ⟨U', l2, c2, s2⟩, hW₁, X', ⟨g', mk, t, L, e1, e2, hq, h1, hL, h2, h3⟩, st⟩ | ⟨q, vm₁, ⟨U', l2, c2, s2⟩, hW₁, X', ⟨g', mk, t, L, E, ce, e1, e2, hq, hce, hcv, hcl, h1, hL, h2, h3⟩, st⟩
  · dsimp only [Pt.U, Pt.locs, Pt.cells, Pt.slots] at X' e1 e2 h1 h2 h3 st
    subst h1; subst h2; subst h3
    exact Or.inl ⟨v, (T.setVm vm₁).calling g' mk As.toArray, t, U', L, hT, X', hL, e1, e2, hq, st⟩
  · dsimp only [Pt.U, Pt.locs, Pt.cells, Pt.slots] at X' e1 e2 h1 h2 h3 st hcl
    subst h1; subst h2; subst h3
    exact Or.inr ⟨q, (T.setVm vm₁).calling g' mk As.toArray, t, U', L, E, ce, hT, X', hL, e1, e2, hq, hce, hcv, vx_cls hW₁ hcl, st⟩
end Runs
section Rows
variable {p : Program} {l : Launch} {e : Env} {R : Room} {s : State} {m : MethodId} {args : Array Value} {below : List Frame} {meth : Method} {c : Code} {H : Heap} {locs : List Loc} {cells slots : Nat} {Q : State → Prop}
variable {mc ms : Nat} {free : Addr → Prop} {A0 A1 : Nat → Prop} {H0 : Heap} {a : Array Value} {pc : Nat} {ls : Array Slot} {st0 rest : List Value}
theorem vx_keep {st₀ t T' : State} {L : List Loc} (h0 : st₀.heap = H) (e1 : T'.heap = t.heap) (hS : va_S A0 H0 H locs) (hA : ∀ q, q < H.size → A1 q → A0 q) (hf : ∀ q, free q → A0 q) (hL : ∀ q ∈ L, free q.base) (hF : va_F A1 st₀ t) :
    H.size ≤ T'.heap.size ∧ (∀ q : Nat, q < H.size → ¬ A1 q → T'.heap[q]? = H[q]?) ∧ va_S A0 H0 T'.heap (locs ++ L) := by
  obtain ⟨hz, hk⟩ := hF
  rw [h0] at hz hk
  exact ⟨by rw [e1]; exact hz, fun q h1 h2 => by rw [e1]; exact hk q h1 h2,
    ⟨Nat.le_trans hS.1 (by rw [e1]; exact hz), fun q h1 h2 => by rw [e1, hk q (Nat.lt_of_lt_of_le h1 hS.1) (fun z => h2 (hA q (Nat.lt_of_lt_of_le h1 hS.1) z))]; exact hS.2.1 q h1 h2, fun q hq => by
      rcases List.mem_append.mp hq with h | h
      · exact hS.2.2 q h
      · exact hf _ (hL q h)⟩⟩
theorem vx_calli {S SX : Type} {post : Int32 → S → Prop} {px : SX → Prop} {B : S → State → Prop} {BX : String → SX → State → Prop} {AX : Nat → Prop} (hr : vx_Run p l e R s m args below meth c H locs cells slots mc ms (F0 m pc ls st0) rest (va_Qi post B A1 a) (vx_X px BX AX) free) (hS : va_S A0 H0 H locs) (hA : ∀ q, q < H.size → A1 q → A0 q) (hf : ∀ q, free q → A0 q) (hAX : ∀ q, q < H.size → AX q → A0 q)
    (kx : ∀ (E : String) (ce : Cell) (q9 : Addr) (u : SX) (t : State) (H1 : Heap) (locs1 : List Loc), t.heap = H1 → s.vm.Alike t.vm → px u → BX E u t → H.size ≤ H1.size → (∀ q : Nat, q < H.size → ¬ AX q → H1[q]? = H[q]?) → va_S A0 H0 H1 locs1 → H1[q9]? = some ce → ce.vm = .none → s.vm.findClass E = some ce.cls → vx_W p l e R s m args below meth c H1 locs1 (cells + mc) (slots + ms) Q (F0 m pc ls rest) q9)
    (kk : ∀ (r : Int32) (u : S) (t : State) (H1 : Heap) (locs1 : List Loc), t.heap = H1 → s.vm.Alike t.vm → post r u → B u t → H.size ≤ H1.size → (∀ q : Nat, q < H.size → ¬ A1 q → H1[q]? = H[q]?) → va_S A0 H0 H1 locs1 → W p l e R s m args below meth c H1 locs1 (cells + mc) (slots + ms) Q (F0 m (pc + 3) ls (.int r :: rest))) : W p l e R s m args below meth c H locs cells slots Q (F0 m pc ls st0) := by
  intro T hT X
  rcases hr T hT X with ⟨v, st₀, t, T', L, h0, X', hL, e1, e2, ⟨⟨r, u, hv, hp, hb⟩, hF⟩, st⟩ | ⟨q, st₀, t, T', L, E, ce, h0, X', hL, e1, e2, ⟨u, hp, hb, hF⟩, hce, hcv, hcl, st⟩
  · cases hv
    obtain ⟨k1, k2, k3⟩ := vx_keep h0 e1 hS hA hf hL hF
    obtain ⟨t2, a1, b1⟩ := kk r u t T'.heap (locs ++ L) e1.symm (by rw [← e2]; exact X'.warmed.alike) hp hb k1 k2 k3 T' rfl X'
    exact ⟨t2, st t2 a1, b1⟩
  · obtain ⟨k1, k2, k3⟩ := vx_keep h0 e1 hS hAX hf hL hF
    obtain ⟨t2, a1, b1⟩ := kx E ce q u t T'.heap (locs ++ L) e1.symm (by rw [← e2]; exact X'.warmed.alike) hp hb k1 k2 k3 (by rw [e1]; exact hce) hcv hcl T' rfl X'
    exact ⟨t2, st.trans a1, b1⟩
theorem vx_calll {S SX : Type} {post : Int64 → S → Prop} {px : SX → Prop} {B : S → State → Prop} {BX : String → SX → State → Prop} {AX : Nat → Prop} (hr : vx_Run p l e R s m args below meth c H locs cells slots mc ms (F0 m pc ls st0) rest (va_Ql post B A1 a) (vx_X px BX AX) free) (hS : va_S A0 H0 H locs) (hA : ∀ q, q < H.size → A1 q → A0 q) (hf : ∀ q, free q → A0 q) (hAX : ∀ q, q < H.size → AX q → A0 q)
    (kx : ∀ (E : String) (ce : Cell) (q9 : Addr) (u : SX) (t : State) (H1 : Heap) (locs1 : List Loc), t.heap = H1 → s.vm.Alike t.vm → px u → BX E u t → H.size ≤ H1.size → (∀ q : Nat, q < H.size → ¬ AX q → H1[q]? = H[q]?) → va_S A0 H0 H1 locs1 → H1[q9]? = some ce → ce.vm = .none → s.vm.findClass E = some ce.cls → vx_W p l e R s m args below meth c H1 locs1 (cells + mc) (slots + ms) Q (F0 m pc ls rest) q9)
    (kk : ∀ (r : Int64) (u : S) (t : State) (H1 : Heap) (locs1 : List Loc), t.heap = H1 → s.vm.Alike t.vm → post r u → B u t → H.size ≤ H1.size → (∀ q : Nat, q < H.size → ¬ A1 q → H1[q]? = H[q]?) → va_S A0 H0 H1 locs1 → W p l e R s m args below meth c H1 locs1 (cells + mc) (slots + ms) Q (F0 m (pc + 3) ls (.long r :: rest))) : W p l e R s m args below meth c H locs cells slots Q (F0 m pc ls st0) := by
  intro T hT X
  rcases hr T hT X with ⟨v, st₀, t, T', L, h0, X', hL, e1, e2, ⟨⟨r, u, hv, hp, hb⟩, hF⟩, st⟩ | ⟨q, st₀, t, T', L, E, ce, h0, X', hL, e1, e2, ⟨u, hp, hb, hF⟩, hce, hcv, hcl, st⟩
  · cases hv
    obtain ⟨k1, k2, k3⟩ := vx_keep h0 e1 hS hA hf hL hF
    obtain ⟨t2, a1, b1⟩ := kk r u t T'.heap (locs ++ L) e1.symm (by rw [← e2]; exact X'.warmed.alike) hp hb k1 k2 k3 T' rfl X'
    exact ⟨t2, st t2 a1, b1⟩
  · obtain ⟨k1, k2, k3⟩ := vx_keep h0 e1 hS hAX hf hL hF
    obtain ⟨t2, a1, b1⟩ := kx E ce q u t T'.heap (locs ++ L) e1.symm (by rw [← e2]; exact X'.warmed.alike) hp hb k1 k2 k3 (by rw [e1]; exact hce) hcv hcl T' rfl X'
    exact ⟨t2, st.trans a1, b1⟩
theorem vx_callf {S SX : Type} {post : UInt32 → S → Prop} {px : SX → Prop} {B : S → State → Prop} {BX : String → SX → State → Prop} {AX : Nat → Prop} (hr : vx_Run p l e R s m args below meth c H locs cells slots mc ms (F0 m pc ls st0) rest (va_Qf post B A1 a) (vx_X px BX AX) free) (hS : va_S A0 H0 H locs) (hA : ∀ q, q < H.size → A1 q → A0 q) (hf : ∀ q, free q → A0 q) (hAX : ∀ q, q < H.size → AX q → A0 q)
    (kx : ∀ (E : String) (ce : Cell) (q9 : Addr) (u : SX) (t : State) (H1 : Heap) (locs1 : List Loc), t.heap = H1 → s.vm.Alike t.vm → px u → BX E u t → H.size ≤ H1.size → (∀ q : Nat, q < H.size → ¬ AX q → H1[q]? = H[q]?) → va_S A0 H0 H1 locs1 → H1[q9]? = some ce → ce.vm = .none → s.vm.findClass E = some ce.cls → vx_W p l e R s m args below meth c H1 locs1 (cells + mc) (slots + ms) Q (F0 m pc ls rest) q9)
    (kk : ∀ (r : UInt32) (u : S) (t : State) (H1 : Heap) (locs1 : List Loc), t.heap = H1 → s.vm.Alike t.vm → post r u → B u t → H.size ≤ H1.size → (∀ q : Nat, q < H.size → ¬ A1 q → H1[q]? = H[q]?) → va_S A0 H0 H1 locs1 → W p l e R s m args below meth c H1 locs1 (cells + mc) (slots + ms) Q (F0 m (pc + 3) ls (.float r :: rest))) : W p l e R s m args below meth c H locs cells slots Q (F0 m pc ls st0) := by
  intro T hT X
  rcases hr T hT X with ⟨v, st₀, t, T', L, h0, X', hL, e1, e2, ⟨⟨r, u, hv, hp, hb⟩, hF⟩, st⟩ | ⟨q, st₀, t, T', L, E, ce, h0, X', hL, e1, e2, ⟨u, hp, hb, hF⟩, hce, hcv, hcl, st⟩
  · cases hv
    obtain ⟨k1, k2, k3⟩ := vx_keep h0 e1 hS hA hf hL hF
    obtain ⟨t2, a1, b1⟩ := kk r u t T'.heap (locs ++ L) e1.symm (by rw [← e2]; exact X'.warmed.alike) hp hb k1 k2 k3 T' rfl X'
    exact ⟨t2, st t2 a1, b1⟩
  · obtain ⟨k1, k2, k3⟩ := vx_keep h0 e1 hS hAX hf hL hF
    obtain ⟨t2, a1, b1⟩ := kx E ce q u t T'.heap (locs ++ L) e1.symm (by rw [← e2]; exact X'.warmed.alike) hp hb k1 k2 k3 (by rw [e1]; exact hce) hcv hcl T' rfl X'
    exact ⟨t2, st.trans a1, b1⟩
theorem vx_calld {S SX : Type} {post : UInt64 → S → Prop} {px : SX → Prop} {B : S → State → Prop} {BX : String → SX → State → Prop} {AX : Nat → Prop} (hr : vx_Run p l e R s m args below meth c H locs cells slots mc ms (F0 m pc ls st0) rest (va_Qd post B A1 a) (vx_X px BX AX) free) (hS : va_S A0 H0 H locs) (hA : ∀ q, q < H.size → A1 q → A0 q) (hf : ∀ q, free q → A0 q) (hAX : ∀ q, q < H.size → AX q → A0 q)
    (kx : ∀ (E : String) (ce : Cell) (q9 : Addr) (u : SX) (t : State) (H1 : Heap) (locs1 : List Loc), t.heap = H1 → s.vm.Alike t.vm → px u → BX E u t → H.size ≤ H1.size → (∀ q : Nat, q < H.size → ¬ AX q → H1[q]? = H[q]?) → va_S A0 H0 H1 locs1 → H1[q9]? = some ce → ce.vm = .none → s.vm.findClass E = some ce.cls → vx_W p l e R s m args below meth c H1 locs1 (cells + mc) (slots + ms) Q (F0 m pc ls rest) q9)
    (kk : ∀ (r : UInt64) (u : S) (t : State) (H1 : Heap) (locs1 : List Loc), t.heap = H1 → s.vm.Alike t.vm → post r u → B u t → H.size ≤ H1.size → (∀ q : Nat, q < H.size → ¬ A1 q → H1[q]? = H[q]?) → va_S A0 H0 H1 locs1 → W p l e R s m args below meth c H1 locs1 (cells + mc) (slots + ms) Q (F0 m (pc + 3) ls (.double r :: rest))) : W p l e R s m args below meth c H locs cells slots Q (F0 m pc ls st0) := by
  intro T hT X
  rcases hr T hT X with ⟨v, st₀, t, T', L, h0, X', hL, e1, e2, ⟨⟨r, u, hv, hp, hb⟩, hF⟩, st⟩ | ⟨q, st₀, t, T', L, E, ce, h0, X', hL, e1, e2, ⟨u, hp, hb, hF⟩, hce, hcv, hcl, st⟩
  · cases hv
    obtain ⟨k1, k2, k3⟩ := vx_keep h0 e1 hS hA hf hL hF
    obtain ⟨t2, a1, b1⟩ := kk r u t T'.heap (locs ++ L) e1.symm (by rw [← e2]; exact X'.warmed.alike) hp hb k1 k2 k3 T' rfl X'
    exact ⟨t2, st t2 a1, b1⟩
  · obtain ⟨k1, k2, k3⟩ := vx_keep h0 e1 hS hAX hf hL hF
    obtain ⟨t2, a1, b1⟩ := kx E ce q u t T'.heap (locs ++ L) e1.symm (by rw [← e2]; exact X'.warmed.alike) hp hb k1 k2 k3 (by rw [e1]; exact hce) hcv hcl T' rfl X'
    exact ⟨t2, st.trans a1, b1⟩
theorem vx_callv {S SX : Type} {post : S → Prop} {px : SX → Prop} {B : S → State → Prop} {BX : String → SX → State → Prop} {AX : Nat → Prop} (hr : vx_Run p l e R s m args below meth c H locs cells slots mc ms (F0 m pc ls st0) rest (va_Qv post B A1 a) (vx_X px BX AX) free) (hS : va_S A0 H0 H locs) (hA : ∀ q, q < H.size → A1 q → A0 q) (hf : ∀ q, free q → A0 q) (hAX : ∀ q, q < H.size → AX q → A0 q)
    (kx : ∀ (E : String) (ce : Cell) (q9 : Addr) (u : SX) (t : State) (H1 : Heap) (locs1 : List Loc), t.heap = H1 → s.vm.Alike t.vm → px u → BX E u t → H.size ≤ H1.size → (∀ q : Nat, q < H.size → ¬ AX q → H1[q]? = H[q]?) → va_S A0 H0 H1 locs1 → H1[q9]? = some ce → ce.vm = .none → s.vm.findClass E = some ce.cls → vx_W p l e R s m args below meth c H1 locs1 (cells + mc) (slots + ms) Q (F0 m pc ls rest) q9)
    (kk : ∀ (u : S) (t : State) (H1 : Heap) (locs1 : List Loc), t.heap = H1 → s.vm.Alike t.vm → post u → B u t → H.size ≤ H1.size → (∀ q : Nat, q < H.size → ¬ A1 q → H1[q]? = H[q]?) → va_S A0 H0 H1 locs1 → W p l e R s m args below meth c H1 locs1 (cells + mc) (slots + ms) Q (F0 m (pc + 3) ls (rest))) : W p l e R s m args below meth c H locs cells slots Q (F0 m pc ls st0) := by
  intro T hT X
  rcases hr T hT X with ⟨v, st₀, t, T', L, h0, X', hL, e1, e2, ⟨⟨u, hv, hp, hb⟩, hF⟩, st⟩ | ⟨q, st₀, t, T', L, E, ce, h0, X', hL, e1, e2, ⟨u, hp, hb, hF⟩, hce, hcv, hcl, st⟩
  · cases hv
    obtain ⟨k1, k2, k3⟩ := vx_keep h0 e1 hS hA hf hL hF
    obtain ⟨t2, a1, b1⟩ := kk u t T'.heap (locs ++ L) e1.symm (by rw [← e2]; exact X'.warmed.alike) hp hb k1 k2 k3 T' rfl X'
    exact ⟨t2, st t2 a1, b1⟩
  · obtain ⟨k1, k2, k3⟩ := vx_keep h0 e1 hS hAX hf hL hF
    obtain ⟨t2, a1, b1⟩ := kx E ce q u t T'.heap (locs ++ L) e1.symm (by rw [← e2]; exact X'.warmed.alike) hp hb k1 k2 k3 (by rw [e1]; exact hce) hcv hcl T' rfl X'
    exact ⟨t2, st.trans a1, b1⟩
/-- caught by the row x of this method's table; the rows ahead don't take it -/
theorem vx_catch {own name : String} {E : String} {ce : Cell} {q : Addr} (hown : s.vm.findClass own = some m.cls) (pre : List ExceptionTableEntry) (x : ExceptionTableEntry) (suf : List ExceptionTableEntry) (hsplit : c.exceptionTable.toList = pre ++ x :: suf)
    (hpass : ∀ z ∈ pre, covers z pc = false ∨ (z.catchType ≠ 0 ∧ ∃ nm : String, (Cond.classLink own z.catchType nm).before args s = true ∧ va_Nc E nm s)) (hx : covers x pc = true) (h0 : x.catchType ≠ 0)
    (hlink : (Cond.classLink own x.catchType name).before args s = true) (hcast : (Cond.castable E name).before args s = true) (hcell : H[q]? = some ce) (hv : ce.vm = .none) (hcl : s.vm.findClass E = some ce.cls)
    (kk : W p l e R s m args below meth c H locs cells slots Q (F0 m x.handlerPc ls [.ref q])) : vx_W p l e R s m args below meth c H locs cells slots Q (F0 m pc ls rest) q := by
  intro T hT X
  have hpl : e.platform.magicAccessors = ({} : Platform).magicAccessors := by rw [X.admits.platform]
  obtain ⟨c3, c4, hc3, hc4, hasg⟩ := Cond.castable_spec hcast
  cases Option.some.inj (hc3.symm.trans hcl)
  obtain ⟨c5, hc5, hcl5⟩ := Cond.classLink_spec hown hlink e.platform hpl
  cases Option.some.inj (hc4.symm.trans hc5)
  obtain ⟨vm', X', st⟩ := X.thenCaughtThrough q (g := F0 m pc ls rest) rfl (Steps.refl _) (by rw [hT]; exact hcell) (by rw [hv]; rfl) (by obtain ⟨k9, h9, -⟩ := Vm.findClass_spec hcl; exact ⟨k9, h9⟩) pre x suf hsplit
    (fun z hz => by
      rcases hpass z hz with h | ⟨hz0, nm, hl1, hn1⟩
      · exact Or.inl h
      · obtain ⟨c6, hc6, hcl6⟩ := Cond.classLink_spec hown hl1 e.platform hpl
        obtain ⟨a8, b8, h1, h2, h3⟩ := hn1
        cases Option.some.inj (h1.symm.trans hcl)
        cases Option.some.inj (h2.symm.trans hc6)
        exact Or.inr ⟨hz0, _, hcl6, h3⟩) hx (Or.inr ⟨h0, c4, hcl5, hasg⟩)
  obtain ⟨t, a1, b1⟩ := kk (T.setVm vm') hT X'
  exact ⟨t, st.trans a1, b1⟩
end Rows
section Ends
variable {p : Program} {l : Launch} {e : Env} {R : Room} {s : State} {m : MethodId} {args : Array Value} {below : List Frame} {meth : Method} {c : Code} {H : Heap} {locs : List Loc} {cells slots : Nat} {Q : State → Prop}
variable {mc ms : Nat} {free : Addr → Prop} {A0 A1 : Nat → Prop} {H0 : Heap} {a : Array Value} {ls : Array Slot} {st0 rest : List Value}
variable {Qc : Array Value → State → Outcome → State → Prop} {XC : String → State → State → Prop}
/-- what a body that may throw owes at its end -/
def vx_MQ (below : List Frame) (Qc : Array Value → State → Outcome → State → Prop) (XC : String → State → State → Prop) (a : Array Value) (s : State) (mc ms : Nat) (free : Addr → Prop) : State → Prop := fun t =>
  ∃ o, t.status = .running ∧ Ended t below o ∧ vx_Q Qc XC mc ms free a s o t
theorem vx_ret {g : JFrame} {mc ms : Nat} (k : W p l e R s m args below meth c H locs cells slots (MQ below Qc args s mc ms free) g) : W p l e R s m args below meth c H locs cells slots (vx_MQ below Qc XC args s mc ms free) g := by
  intro T hT X
  obtain ⟨t, a1, o, b1, b2, b3, b4⟩ := k T hT X
  exact ⟨t, a1, o, b1, b2, Or.inl ⟨b3, b4⟩⟩
/-- not caught here: it goes on to the caller -/
theorem vx_widen {g : JFrame} {q : Addr} {k n : Nat} (h1 : cells ≤ k) (h2 : slots ≤ n) (kk : vx_W p l e R s m args below meth c H locs k n Q g q) : vx_W p l e R s m args below meth c H locs cells slots Q g q := fun T hT X => kk T hT (stand_widen X h1 h2)
theorem vx_out {pc : Nat} {E : String} {ce : Cell} {q : Addr} {mc ms : Nat} (hout : ∀ x ∈ c.exceptionTable.toList, covers x pc = false) (hlocks : meth.locks = false) (hcell : H[q]? = some ce) (hv : ce.vm = .none) (hcl : s.vm.findClass E = some ce.cls)
    (hx : ∀ t : State, t.heap = H → s.vm.Alike t.vm → XC E s t) (hf : ∀ z ∈ locs, free z.base) (hc : cells ≤ mc) (hs : slots ≤ ms) :
    vx_W p l e R s m args below meth c H locs cells slots (vx_MQ below Qc XC args s mc ms free) (F0 m pc ls rest) q := by
  intro T hT X
  obtain ⟨st1, hrun, hend, hW, hsm⟩ := X.leaveThrown q (g := F0 m pc ls rest) rfl rfl rfl hout hlocks
  have hcell9 : (T.setFrames (.throwing q :: below)).heap[q]? = some ce := by
    show T.heap[q]? = some ce
    rw [hT]; exact hcell
  exact ⟨_, st1, .threw q, hrun, hend, Or.inr ⟨q, rfl, E, ce, locs, hx _ hT hW.alike, hcell9, hv, hcl, hW, hsm.mono hc hs, hf⟩⟩
theorem vx_frame {U : State} {k n : Nat} (h : s.sameButNew ({ U with vm := s.vm } : State) locs k n) : s.heap.size ≤ U.heap.size ∧ ∀ q : Nat, q < s.heap.size → (∀ z ∈ locs, z.base ≠ q) → U.heap[q]? = s.heap[q]? := by
  obtain ⟨-, h2, -, -, -, h6⟩ := h
  refine ⟨h2, fun q hq hz => ?_⟩
  obtain ⟨c9, e1, e2, e3, e4⟩ := h6 q _ (Array.getElem?_eq_getElem hq)
  have hs : c9.slots = (s.heap[q]).slots := Array.ext_getElem? fun i => e4 i fun hm => hz _ hm rfl
  have h9 : c9 = s.heap[q] := by
    rw [hs] at e2
    exact e2
  have e5 : U.heap[q]? = some c9 := e1
  rw [e5, h9, Array.getElem?_eq_getElem hq]
/-- the words of a throw but the four that speak of the heap -/
def vx_no (w : Cond) : Bool := decide (w ≠ .isRef (.static Bundle.tN "UNASSIGNED_STACK" Bundle.steD)) && decide (w ≠ .isRef (.static Bundle.tN "SUPPRESSED_SENTINEL" Bundle.listD)) && decide (w ≠ .laysStatic Bundle.tN "UNASSIGNED_STACK" Bundle.steD) && decide (w ≠ .laysStatic Bundle.tN "SUPPRESSED_SENTINEL" Bundle.listD)
def vx_at0 (own : String) (ic : Nat) (X : String) (names : List String) : List Cond := (Bundle.ownAtoms0 own ic X names).filter vx_no
def vx_atS (own : String) (ic : Nat) (X : String) (names : List String) : List Cond := (Bundle.ownAtoms own ic X names).filter vx_no
/-- a word that the tables alone decide, or a good one -/
def vx_ot (w : Cond) : Bool := w.onTables || goodWord w
theorem vx_ot_at {args a' : Array Value} {s U : State} {w : Cond} (hW : s.WarmedH U.vm) (hvm : s.vm = U.vm) (hg : vx_ot w = true) (h : w.before args s = true) : w.before a' U = true := by
  simp only [vx_ot, Bool.or_eq_true] at hg
  rcases hg with hg | hg
  · exact va_tabs hg hvm h
  · exact word_at hW (good_of_word hg) h
/-- a list's words: the good ones out of the method's own list, the others by premises of their own -/
theorem vx_hat {args : Array Value} {s : State} {L B : List Cond} (h1 : ∀ w ∈ L.filter goodWord, w.before args s = true) (h2 : ∀ w ∈ L.filter (fun w => !goodWord w), w ∈ B) (h3 : ∀ w ∈ B, w.before args s = true) : ∀ w ∈ L, w.before args s = true := by
  intro w hw
  by_cases g : goodWord w = true
  · exact h1 w (List.mem_filter.mpr ⟨hw, g⟩)
  · refine h3 w (h2 w (List.mem_filter.mpr ⟨hw, ?_⟩))
    show (!goodWord w) = true
    cases hgw : goodWord w
    · rfl
    · exact absurd hgw g
theorem vx_c {args : Array Value} {s : State} {w : Cond} {B : List Cond} (h : w.before args s = true) (t : ∀ w ∈ B, w.before args s = true) : ∀ w' ∈ w :: B, w'.before args s = true := fun w' h' => (List.mem_cons.mp h').elim (fun e => by rw [e]; exact h) (t w')
theorem vx_n {args : Array Value} {s : State} : ∀ w ∈ ([] : List Cond), w.before args s = true := fun _ h => nomatch h
theorem vx_own {args : Array Value} {s : State} {L : List Cond} (h1 : ∀ w ∈ L.filter vx_no, w.before args s = true)
    (hU : (Cond.isRef (.static Bundle.tN "UNASSIGNED_STACK" Bundle.steD)).before args s = true) (hN : (Cond.isRef (.static Bundle.tN "SUPPRESSED_SENTINEL" Bundle.listD)).before args s = true)
    (lU : (Cond.laysStatic Bundle.tN "UNASSIGNED_STACK" Bundle.steD).before args s = true) (lN : (Cond.laysStatic Bundle.tN "SUPPRESSED_SENTINEL" Bundle.listD).before args s = true) : ∀ w ∈ L, w.before args s = true := by
  intro w hw
  by_cases e1 : w = .isRef (.static Bundle.tN "UNASSIGNED_STACK" Bundle.steD)
  · rw [e1]; exact hU
  · by_cases e2 : w = .isRef (.static Bundle.tN "SUPPRESSED_SENTINEL" Bundle.listD)
    · rw [e2]; exact hN
    · by_cases e3 : w = .laysStatic Bundle.tN "UNASSIGNED_STACK" Bundle.steD
      · rw [e3]; exact lU
      · by_cases e4 : w = .laysStatic Bundle.tN "SUPPRESSED_SENTINEL" Bundle.listD
        · rw [e4]; exact lN
        · exact h1 w (List.mem_filter.mpr ⟨hw, by unfold vx_no; rw [decide_eq_true e1, decide_eq_true e2, decide_eq_true e3, decide_eq_true e4]; rfl⟩)
/-- where a static field lies, its class's statics cell in H -/
def vx_L (C n d : String) (A : Nat → Prop) (U : State) (H : Heap) : Prop := ∃ (c : ClassId) (k : Class) (i : Nat) (f : Field) (a : Nat) (cell : Cell), U.vm.findClass C = some c ∧ U.fieldFound? C n d = some (c, k, i, f) ∧ f.isStatic = true ∧ k.statics = some a ∧ H[a]? = some cell ∧ cell.vm.isStatics = true ∧ cell.cls = c ∧ f.slot < cell.slots.size ∧ k.staticTypes[f.slot]? = some f.type ∧ ¬ A a
theorem vx_L.moved {C n d : String} {A : Nat → Prop} {u U : State} {H : Heap} (hvm : u.vm.Alike U.vm) (h : vx_L C n d A u H) : vx_L C n d A U H := by
  obtain ⟨c, k, i, f, a, cell, h1, h2, h3, h4, h5, h6, h7, h8, h9, h10⟩ := h
  obtain ⟨k', hi', he⟩ := State.fieldFound?_setVm hvm h2
  exact ⟨c, k', i, f, a, cell, by rw [hvm.findClass]; exact h1, hi', h3, by rw [he]; exact h4, h5, h6, h7, h8, by rw [he]; exact h9, h10⟩
theorem vx_L.kept {C n d : String} {A : Nat → Prop} {U : State} {H H1 : Heap} (h : vx_L C n d A U H) (hq : ∀ a : Nat, a < H.size → ¬ A a → H1[a]? = H[a]?) : vx_L C n d A U H1 := by
  obtain ⟨c, k, i, f, a, cell, h1, h2, h3, h4, h5, h6, h7, h8, h9, h10⟩ := h
  exact ⟨c, k, i, f, a, cell, h1, h2, h3, h4, by rw [hq a (Array.getElem?_eq_some_iff.mp h5).1 h10]; exact h5, h6, h7, h8, h9, h10⟩
theorem vx_L.narrow {C n d : String} {A B : Nat → Prop} {U : State} {H : Heap} (h : vx_L C n d A U H) (hAB : ∀ q, B q → A q) : vx_L C n d B U H := by
  obtain ⟨c, k, i, f, a, cell, h1, h2, h3, h4, h5, h6, h7, h8, h9, h10⟩ := h
  exact ⟨c, k, i, f, a, cell, h1, h2, h3, h4, h5, h6, h7, h8, h9, fun z => h10 (hAB _ z)⟩
theorem vx_L.word {C n d : String} {A : Nat → Prop} {s : State} {args : Array Value} (h : vx_L C n d A s s.heap) : (Cond.laysStatic C n d).before args s = true := by
  obtain ⟨c, k, i, f, a, cell, h1, h2, h3, h4, h5, h6, h7, h8, h9, -⟩ := h
  show (Cond.laysStatic C n d).holds args s none s [] = true
  exact Cond.laysStatic_of h1 h2 h3 h4 h5 h6 h7 h8 h9
/-- .. and what it holds: null or some reference -/
def vx_Zq (C n d : String) (A : Nat → Prop) (U : State) (H : Heap) : Prop := va_Zq C n d A U H ∧ vx_L C n d A U H
theorem vx_Zq.moved {C n d : String} {A : Nat → Prop} {u U : State} {H : Heap} (hvm : u.vm.Alike U.vm) (h : vx_Zq C n d A u H) : vx_Zq C n d A U H := ⟨va_Zq.moved hvm h.1, vx_L.moved hvm h.2⟩
theorem vx_Zq.kept {C n d : String} {A : Nat → Prop} {U : State} {H H1 : Heap} (h : vx_Zq C n d A U H) (hq : ∀ a : Nat, a < H.size → ¬ A a → H1[a]? = H[a]?) : vx_Zq C n d A U H1 := ⟨va_Zq.kept h.1 hq, vx_L.kept h.2 hq⟩
theorem vx_Zq.narrow {C n d : String} {A B : Nat → Prop} {U : State} {H : Heap} (h : vx_Zq C n d A U H) (hAB : ∀ q, B q → A q) : vx_Zq C n d B U H := ⟨va_Zq.narrow h.1 hAB, vx_L.narrow h.2 hAB⟩
theorem vx_Zqof {args : Array Value} {s : State} {C n d : String} {A : Nat → Prop} (hl : (Cond.laysStatic C n d).before args s = true) (hini : (Cond.initialized C).before args s = true) (h : (Cond.isRef (.static C n d)).before args s = true) (hA : ∀ a : Nat, a < s.heap.size → ¬ A a) : vx_Zq C n d A s s.heap := by
  refine ⟨va_Zqof hl hini h hA, ?_⟩
  obtain ⟨c, k, i, f, a, cell, h1, h2, h3, h4, h5, h6, h7, h8, h9⟩ := Cond.laysStatic_spec hl
  exact ⟨c, k, i, f, a, cell, h1, h2, h3, h4, h5, h6, h7, h8, h9, hA a (Array.getElem?_eq_some_iff.mp h5).1⟩
theorem vx_isRef {C n d : String} {v : Value} {A : Nat → Prop} {s : State} {args : Array Value} (h : va_Z C n d v A s s.heap) (hv : v.isRef = true) : (Cond.isRef (.static C n d)).before args s = true := by
  obtain ⟨cf, kf, fi, f, a, cell, h1, h2, h3, h4, h5, h6, h7, -⟩ := h
  have he : (Term.static C n d).eval args s none [] s = some v := by
    simp [Term.eval, State.fieldNamed?, h1, h2, h4, h5, h6, h7]
  simp only [Cond.before, Cond.holds, Cond.value, he]
  cases v <;> simp_all [Value.isRef]
theorem vx_isRefq {C n d : String} {A : Nat → Prop} {s : State} {args : Array Value} (h : va_Zq C n d A s s.heap) : (Cond.isRef (.static C n d)).before args s = true := by
  rcases h with h | ⟨t, h⟩
  · exact vx_isRef h rfl
  · exact vx_isRef h rfl
/-- the same frame, seen from here: as if the method were called anew in this heap -/
theorem vx_rebase {T : State} (X : Stand p l e R s m args below meth c T locs cells slots) {R' : Room} (hf : R'.frames ≤ R.frames) (hl : R'.locals ≤ R.locals) (hc : cells + R'.cells ≤ R.cells) (hs : slots + R'.slots ≤ R.slots) :
    Stand p l e R' ((T.setVm s.vm).setFrames (.invoking m args :: below)) m args below meth c T [] 0 0 := by
  have htop : (T.setVm s.vm).topJava?.isSome := X.here.top
  have hF : ((T.setVm s.vm).setFrames (.invoking m args :: below)).frames = .invoking m args :: below := State.frames_setFrames _ (State.cur_lt_of_top htop)
  obtain ⟨g₀, hg0⟩ := Option.isSome_iff_exists.mp htop
  obtain ⟨r, hr⟩ := State.topJava?_eq_some.mp hg0
  have hl9 : e.platform.stackLimits (T.setVm s.vm).me = e.platform.stackLimits s.me := X.limits
  have hb9 : (T.setVm s.vm).me.stackBytes = s.me.stackBytes := X.bytes
  refine ⟨X.admits, X.cas, X.clock, hF, ?_, X.hears, X.method, X.code, X.here, X.tail, X.warmed, ?_, ?_, ?_⟩
  · have h := X.room
    have hU : ((T.setVm s.vm).setFrames (.invoking m args :: below)).localsInUse = s.localsInUse := by
      rw [State.localsInUse_invoking hF (meth := meth) (c := c) X.method X.code, State.localsInUse_invoking X.frames X.method X.code]
    simp only [State.hasRoom, Bool.and_eq_true, decide_eq_true_eq] at h ⊢
    obtain ⟨⟨⟨⟨h1, h2, h3, h4, h5, h6⟩, h7⟩, h8⟩, h9⟩ := h
    rw [X.frames, List.length_cons] at h2 h3
    have q1 := X.heapSize
    have q2 := X.used
    simp only [hF, hU, List.length_cons, State.stackLimits_setFrames, State.stackBytes_setFrames, hl9, hb9]
    refine ⟨⟨⟨⟨by omega, by omega, by omega, by omega, by omega, h6⟩, ?_⟩, ?_⟩, X.book⟩
    · show T.heap.size + R'.cells ≤ e.platform.maxCells
      omega
    · show T.slotsUsed + R'.slots ≤ e.platform.maxSlots
      omega
  · rw [State.stackLimits_setFrames]; rfl
  · rw [State.stackBytes_setFrames]; rfl
  · refine ⟨?_, Nat.le_refl _, Nat.le_refl _, ?_, ?_, fun a c9 h9 => ⟨c9, h9, rfl, rfl, fun _ _ => rfl⟩⟩
    · obtain ⟨t, ht, -⟩ := State.frames_cons hr
      show T.setVm s.vm = { ((T.setVm s.vm).setFrames (.invoking m args :: below)).setFrames (T.setVm s.vm).frames with heap := T.heap, slotsUsed := T.slotsUsed }
      rw [State.setFrames_setFrames, State.setFrames_self ht]
      rfl
    · show T.slotsUsed = T.slotsUsed + ((T.heap.toList.drop T.heap.size).map (·.slots.size)).sum
      rw [List.drop_eq_nil_of_le (Nat.le_of_eq Array.length_toList)]
      rfl
    · show ((T.heap.toList.drop T.heap.size).map (·.slots.size)).sum ≤ 0
      rw [List.drop_eq_nil_of_le (Nat.le_of_eq Array.length_toList)]
      exact Nat.le_refl _
/-- 'throw new E()': new; dup; invokespecial; athrow -/
theorem vx_throw0 {cc : ByteArray} {pc : Nat} (hexec : p.tables.exec = Jvm.exec) (hb : c.code = cc) (hl : l.stackTraces = false) {own cls : String} {names : List String} {ik ic mc ms : Nat} {A : Nat → Prop}
    (hown : s.vm.findClass own = some m.cls) (hcls : Bundle.fit cls = true) (hnames : ∀ n ∈ names, Bundle.fit n = true)
    (hk : (Cond.classLink own ik cls).before args s = true) (hini : (Cond.initialized cls).before args s = true) (hat : ∀ w ∈ vx_at0 own ic cls names, w.before args s = true)
    (hgood : ∀ w ∈ Cond.classLink own ik cls :: Cond.initialized cls :: vx_at0 own ic cls names, vx_ot w = true)
    (hU : vx_Zq Bundle.tN "UNASSIGNED_STACK" Bundle.steD A s s.heap) (hN : vx_Zq Bundle.tN "SUPPRESSED_SENTINEL" Bundle.listD A s s.heap) (hS : va_S A s.heap H locs) (hsize : ls.size = c.maxLocals)
    (d0 : decode cc pc = .ok (.new ik, 3)) (d3 : decode cc (pc + 3) = .ok (.dup, 1)) (d4 : decode cc (pc + 4) = .ok (.invokespecial ic, 3)) (d7 : decode cc (pc + 7) = .ok (.athrow, 1))
    (hout : ∀ x ∈ c.exceptionTable.toList, covers x (pc + 7) = false)
    (hRframes : names.length + 3 < R.frames) (hRlocals : (rest.map fun v => v.category).sum + (13 * (names.length + 1) + 42) ≤ R.locals) (hRcells : cells + 1 ≤ R.cells) (hRslots : slots + 6 ≤ R.slots) (hlocks : meth.locks = false)
    (hx : ∀ t : State, s.vm.Alike t.vm → H.size ≤ t.heap.size → (∀ q : Nat, q < H.size → t.heap[q]? = H[q]?) → XC cls s t)
    (hf : ∀ z ∈ locs, free z.base) (hc : cells + 1 ≤ mc) (hs : slots + 6 ≤ ms) :
    W p l e R s m args below meth c H locs cells slots (vx_MQ below Qc XC args s mc ms free) (F0 m pc ls rest) := by
  intro T hT X
  have htr : e.platform.stackTraces = false := (show e.platform.stackTraces = l.stackTraces by rw [X.admits.platform]).trans hl
  have Y := vx_rebase X (R' := { frames := R.frames, locals := R.locals, cells := 1, slots := 6 }) (Nat.le_refl _) (Nat.le_refl _) hRcells hRslots
  obtain ⟨s', hA⟩ : ∃ z, z = (T.setVm s.vm).setFrames (.invoking m args :: below) := ⟨_, rfl⟩
  rw [← hA] at Y
  have hvm : s'.vm = s.vm := by rw [hA]; rfl
  have hhp : s'.heap = H := by rw [hA]; exact hT
  have hW0 : s.WarmedH s'.vm := by rw [hvm]; exact State.WarmedH.refl s
  have hat' : ∀ w ∈ vx_at0 own ic cls names, w.before args s' = true := fun w hw => vx_ot_at hW0 hvm.symm (hgood w (List.mem_cons_of_mem _ (List.mem_cons_of_mem _ hw))) (hat w hw)
  have hk' : (Cond.classLink own ik cls).before args s' = true := vx_ot_at hW0 hvm.symm (hgood _ List.mem_cons_self) hk
  have hini' : (Cond.initialized cls).before args s' = true := vx_ot_at hW0 hvm.symm (hgood _ (List.mem_cons_of_mem _ List.mem_cons_self)) hini
  have hU' : vx_Zq Bundle.tN "UNASSIGNED_STACK" Bundle.steD A s' s'.heap := by rw [hhp]; exact vx_Zq.moved hW0.alike (hU.kept hS.2.1)
  have hN' : vx_Zq Bundle.tN "SUPPRESSED_SENTINEL" Bundle.listD A s' s'.heap := by rw [hhp]; exact vx_Zq.moved hW0.alike (hN.kept hS.2.1)
  have h : ∀ w ∈ Bundle.ownAtoms0 own ic cls names, w.before args s' = true := vx_own hat' (vx_isRefq hU'.1) (vx_isRefq hN'.1) hU'.2.word hN'.2.word
  have hown' : s'.vm.findClass own = some m.cls := by rw [hvm]; exact hown
  have hins : (Cond.instantiable cls 6).before args s' = true := h _ (by simp [Bundle.ownAtoms0])
  obtain ⟨vm₁, cX, kX, hfX, hkX, -, -, X₁, st1⟩ := Y.newCold hexec (own := own) (C := cls) (index := ik) (n := 6) hown' hk' hins hini'
    (g := F0 m pc ls rest) rfl (by rw [hb]; exact d0) (Nat.le_refl _) (Nat.le_refl _)
  generalize hT1 : (T.setVm vm₁).pushCell { cls := cX, slots := kX.instanceTypes.map defaultValue, vm := .none } = T1 at X₁ st1
  have hcat : (Value.ref T.heap.size).category = 1 := rfl
  have hcellA : T1.heap[T.heap.size]? = some (freshCell cX kX) := by rw [← hT1]; exact State.heap_pushCell_size _ _
  have d3' : decode c.code (pc + 3) = .ok (.dup, 1) := by rw [hb]; exact d3
  obtain ⟨U, hsteps, hrun, hend, hW, hsame, ce, hce, hO⟩ := X₁.ctorThrow0 hexec htr (own := own) (cls := cls) (names := names) (ic := ic) hown' hcls hnames h (fun x hx => nomatch hx) hfX hkX hcellA (by rw [hhp, hT]; exact Nat.le_refl _)
    (g := { method := m, pc := pc + 4, locals := ls, stack := .ref T.heap.size :: .ref T.heap.size :: rest, locked := none }) rfl hsize rfl rfl (rest := rest) rfl
    (by rw [hb]; exact d4) (by rw [hb]; exact d7) hout hRframes (by simp only [List.map_cons, List.sum_cons, hcat]; omega) hlocks
  obtain ⟨f1, f2⟩ := vx_frame hsame
  rw [hhp] at f1 f2
  have hWs : s.WarmedH U.vm := State.WarmedH.trans hW0 hW
  have hcl : s.vm.findClass cls = some ce.cls := by
    have h9 := hO.cls
    rw [hvm] at h9
    exact h9
  have hall : s.sameButNew ({ U with vm := s.vm } : State) locs mc ms := by
    subst hA
    obtain ⟨e1, e2⟩ := hsame
    rw [State.setFrames_setFrames] at e1
    have h2 : (T.setVm s.vm).sameButNew ({ U with vm := s.vm } : State) [] (0 + 1) (0 + 6) := ⟨e1, e2⟩
    have h3 := X.same.trans h2
    rw [List.append_nil] at h3
    exact h3.mono hc hs
  refine ⟨U, ?_, .threw T.heap.size, hrun, hend, Or.inr ⟨T.heap.size, rfl, cls, ce, locs, hx U hWs.alike f1 (fun q hq => f2 q hq (fun z hz => nomatch hz)), hce, hO.vm, hcl, hWs, hall, hf⟩⟩
  refine st1 _ ?_
  show Steps p.tables e below (T1.setTop { method := m, pc := pc + 3, locals := ls, stack := .ref T.heap.size :: rest, locked := none }) _
  jvm_step X₁.here [X₁.here.top, hexec, d3', Value.category]
  exact hsteps
/-- 'throw new E("text")': new; dup; ldc; invokespecial; athrow -/
theorem vx_throwS {cc : ByteArray} {pc : Nat} (hexec : p.tables.exec = Jvm.exec) (hb : c.code = cc) (hl : l.stackTraces = false) {own cls text : String} {names : List String} {ik is ic mc ms sa : Nat} {A : Nat → Prop}
    (hown : s.vm.findClass own = some m.cls) (hcls : Bundle.fit cls = true) (hnames : ∀ n ∈ names, Bundle.fit n = true)
    (hk : (Cond.classLink own ik cls).before args s = true) (hini : (Cond.initialized cls).before args s = true) (hstr : vk_R own is text sa s) (hat : ∀ w ∈ vx_atS own ic cls names, w.before args s = true)
    (hgood : ∀ w ∈ Cond.classLink own ik cls :: Cond.initialized cls :: vx_atS own ic cls names, vx_ot w = true)
    (hU : vx_Zq Bundle.tN "UNASSIGNED_STACK" Bundle.steD A s s.heap) (hN : vx_Zq Bundle.tN "SUPPRESSED_SENTINEL" Bundle.listD A s s.heap) (hS : va_S A s.heap H locs) (hsize : ls.size = c.maxLocals)
    (d0 : decode cc pc = .ok (.new ik, 3)) (d3 : decode cc (pc + 3) = .ok (.dup, 1)) (d4 : decode cc (pc + 4) = .ok (.ldc is, 2)) (d6 : decode cc (pc + 6) = .ok (.invokespecial ic, 3)) (d9 : decode cc (pc + 9) = .ok (.athrow, 1))
    (hout : ∀ x ∈ c.exceptionTable.toList, covers x (pc + 9) = false)
    (hRframes : names.length + 3 < R.frames) (hRlocals : (rest.map fun v => v.category).sum + (13 * (names.length + 1) + 43) ≤ R.locals) (hRcells : cells + 1 ≤ R.cells) (hRslots : slots + 6 ≤ R.slots) (hlocks : meth.locks = false)
    (hx : ∀ t : State, s.vm.Alike t.vm → H.size ≤ t.heap.size → (∀ q : Nat, q < H.size → t.heap[q]? = H[q]?) → XC cls s t)
    (hf : ∀ z ∈ locs, free z.base) (hc : cells + 1 ≤ mc) (hs : slots + 6 ≤ ms) :
    W p l e R s m args below meth c H locs cells slots (vx_MQ below Qc XC args s mc ms free) (F0 m pc ls rest) := by
  intro T hT X
  have htr : e.platform.stackTraces = false := (show e.platform.stackTraces = l.stackTraces by rw [X.admits.platform]).trans hl
  have Y := vx_rebase X (R' := { frames := R.frames, locals := R.locals, cells := 1, slots := 6 }) (Nat.le_refl _) (Nat.le_refl _) hRcells hRslots
  obtain ⟨s', hA⟩ : ∃ z, z = (T.setVm s.vm).setFrames (.invoking m args :: below) := ⟨_, rfl⟩
  rw [← hA] at Y
  have hvm : s'.vm = s.vm := by rw [hA]; rfl
  have hhp : s'.heap = H := by rw [hA]; exact hT
  have hW0 : s.WarmedH s'.vm := by rw [hvm]; exact State.WarmedH.refl s
  have hat' : ∀ w ∈ vx_atS own ic cls names, w.before args s' = true := fun w hw => vx_ot_at hW0 hvm.symm (hgood w (List.mem_cons_of_mem _ (List.mem_cons_of_mem _ hw))) (hat w hw)
  have hk' : (Cond.classLink own ik cls).before args s' = true := vx_ot_at hW0 hvm.symm (hgood _ List.mem_cons_self) hk
  have hini' : (Cond.initialized cls).before args s' = true := vx_ot_at hW0 hvm.symm (hgood _ (List.mem_cons_of_mem _ List.mem_cons_self)) hini
  have hU' : vx_Zq Bundle.tN "UNASSIGNED_STACK" Bundle.steD A s' s'.heap := by rw [hhp]; exact vx_Zq.moved hW0.alike (hU.kept hS.2.1)
  have hN' : vx_Zq Bundle.tN "SUPPRESSED_SENTINEL" Bundle.listD A s' s'.heap := by rw [hhp]; exact vx_Zq.moved hW0.alike (hN.kept hS.2.1)
  have h : ∀ w ∈ Bundle.ownAtoms own ic cls names, w.before args s' = true := vx_own hat' (vx_isRefq hU'.1) (vx_isRefq hN'.1) hU'.2.word hN'.2.word
  have hown' : s'.vm.findClass own = some m.cls := by rw [hvm]; exact hown
  have hins : (Cond.instantiable cls 6).before args s' = true := h _ (by simp [Bundle.ownAtoms])
  obtain ⟨vm₁, cX, kX, hfX, hkX, -, -, X₁, st1⟩ := Y.newCold hexec (own := own) (C := cls) (index := ik) (n := 6) hown' hk' hins hini'
    (g := F0 m pc ls rest) rfl (by rw [hb]; exact d0) (Nat.le_refl _) (Nat.le_refl _)
  generalize hT1 : (T.setVm vm₁).pushCell { cls := cX, slots := kX.instanceTypes.map defaultValue, vm := .none } = T1 at X₁ st1
  have hcat : (Value.ref T.heap.size).category = 1 := rfl
  have hcellA : T1.heap[T.heap.size]? = some (freshCell cX kX) := by rw [← hT1]; exact State.heap_pushCell_size _ _
  have d3' : decode c.code (pc + 3) = .ok (.dup, 1) := by rw [hb]; exact d3
  have d4' : decode c.code (pc + 4) = .ok (.ldc is, 2) := by rw [hb]; exact d4
  have hstr' : vk_R own is text sa s' := vk_R.warm hW0 hstr
  obtain ⟨U, hsteps, hrun, hend, hW, hsame, ce, hce, hO⟩ := X₁.ctorThrowS hexec htr (own := own) (cls := cls) (names := names) (ic := ic) hown' hcls hnames h (fun x hx => nomatch hx) hfX hkX hcellA (by rw [hhp, hT]; exact Nat.le_refl _) (msg := .ref sa) rfl
    (g := { method := m, pc := pc + 6, locals := ls, stack := .ref sa :: .ref T.heap.size :: .ref T.heap.size :: rest, locked := none }) rfl hsize rfl rfl (rest := rest) rfl
    (by rw [hb]; exact d6) (by rw [hb]; exact d9) hout hRframes (by simp only [List.map_cons, List.sum_cons, hcat]; omega) hlocks
  obtain ⟨f1, f2⟩ := vx_frame hsame
  rw [hhp] at f1 f2
  have hWs : s.WarmedH U.vm := State.WarmedH.trans hW0 hW
  have hcl : s.vm.findClass cls = some ce.cls := by
    have h9 := hO.cls
    rw [hvm] at h9
    exact h9
  have hall : s.sameButNew ({ U with vm := s.vm } : State) locs mc ms := by
    subst hA
    obtain ⟨e1, e2⟩ := hsame
    rw [State.setFrames_setFrames] at e1
    have h2 : (T.setVm s.vm).sameButNew ({ U with vm := s.vm } : State) [] (0 + 1) (0 + 6) := ⟨e1, e2⟩
    have h3 := X.same.trans h2
    rw [List.append_nil] at h3
    exact h3.mono hc hs
  refine ⟨U, ?_, .threw T.heap.size, hrun, hend, Or.inr ⟨T.heap.size, rfl, cls, ce, locs, hx U hWs.alike f1 (fun q hq => f2 q hq (fun z hz => nomatch hz)), hce, hO.vm, hcl, hWs, hall, hf⟩⟩
  refine st1 _ ?_
  show Steps p.tables e below (T1.setTop { method := m, pc := pc + 3, locals := ls, stack := .ref T.heap.size :: rest, locked := none }) _
  jvm_step X₁.here [X₁.here.top, hexec, d3', Value.category]
  exact X₁.ldcString hexec (own := own) (text := text) (index := is) (a := sa) hown' hstr'.1 hstr'.2
    (g := { method := m, pc := pc + 4, locals := ls, stack := .ref T.heap.size :: .ref T.heap.size :: rest, locked := none }) rfl d4' _ hsteps
/-- 'throw new E("text")', the text by a wide index -/
theorem vx_throwSW {cc : ByteArray} {pc : Nat} (hexec : p.tables.exec = Jvm.exec) (hb : c.code = cc) (hl : l.stackTraces = false) {own cls text : String} {names : List String} {ik is ic mc ms sa : Nat} {A : Nat → Prop}
    (hown : s.vm.findClass own = some m.cls) (hcls : Bundle.fit cls = true) (hnames : ∀ n ∈ names, Bundle.fit n = true)
    (hk : (Cond.classLink own ik cls).before args s = true) (hini : (Cond.initialized cls).before args s = true) (hstr : vk_R own is text sa s) (hat : ∀ w ∈ vx_atS own ic cls names, w.before args s = true)
    (hgood : ∀ w ∈ Cond.classLink own ik cls :: Cond.initialized cls :: vx_atS own ic cls names, vx_ot w = true)
    (hU : vx_Zq Bundle.tN "UNASSIGNED_STACK" Bundle.steD A s s.heap) (hN : vx_Zq Bundle.tN "SUPPRESSED_SENTINEL" Bundle.listD A s s.heap) (hS : va_S A s.heap H locs) (hsize : ls.size = c.maxLocals)
    (d0 : decode cc pc = .ok (.new ik, 3)) (d3 : decode cc (pc + 3) = .ok (.dup, 1)) (d4 : decode cc (pc + 4) = .ok (.ldc_w is, 3)) (d7 : decode cc (pc + 7) = .ok (.invokespecial ic, 3)) (d10 : decode cc (pc + 10) = .ok (.athrow, 1))
    (hout : ∀ x ∈ c.exceptionTable.toList, covers x (pc + 10) = false)
    (hRframes : names.length + 3 < R.frames) (hRlocals : (rest.map fun v => v.category).sum + (13 * (names.length + 1) + 43) ≤ R.locals) (hRcells : cells + 1 ≤ R.cells) (hRslots : slots + 6 ≤ R.slots) (hlocks : meth.locks = false)
    (hx : ∀ t : State, s.vm.Alike t.vm → H.size ≤ t.heap.size → (∀ q : Nat, q < H.size → t.heap[q]? = H[q]?) → XC cls s t)
    (hf : ∀ z ∈ locs, free z.base) (hc : cells + 1 ≤ mc) (hs : slots + 6 ≤ ms) :
    W p l e R s m args below meth c H locs cells slots (vx_MQ below Qc XC args s mc ms free) (F0 m pc ls rest) := by
  intro T hT X
  have htr : e.platform.stackTraces = false := (show e.platform.stackTraces = l.stackTraces by rw [X.admits.platform]).trans hl
  have Y := vx_rebase X (R' := { frames := R.frames, locals := R.locals, cells := 1, slots := 6 }) (Nat.le_refl _) (Nat.le_refl _) hRcells hRslots
  obtain ⟨s', hA⟩ : ∃ z, z = (T.setVm s.vm).setFrames (.invoking m args :: below) := ⟨_, rfl⟩
  rw [← hA] at Y
  have hvm : s'.vm = s.vm := by rw [hA]; rfl
  have hhp : s'.heap = H := by rw [hA]; exact hT
  have hW0 : s.WarmedH s'.vm := by rw [hvm]; exact State.WarmedH.refl s
  have hat' : ∀ w ∈ vx_atS own ic cls names, w.before args s' = true := fun w hw => vx_ot_at hW0 hvm.symm (hgood w (List.mem_cons_of_mem _ (List.mem_cons_of_mem _ hw))) (hat w hw)
  have hk' : (Cond.classLink own ik cls).before args s' = true := vx_ot_at hW0 hvm.symm (hgood _ List.mem_cons_self) hk
  have hini' : (Cond.initialized cls).before args s' = true := vx_ot_at hW0 hvm.symm (hgood _ (List.mem_cons_of_mem _ List.mem_cons_self)) hini
  have hU' : vx_Zq Bundle.tN "UNASSIGNED_STACK" Bundle.steD A s' s'.heap := by rw [hhp]; exact vx_Zq.moved hW0.alike (hU.kept hS.2.1)
  have hN' : vx_Zq Bundle.tN "SUPPRESSED_SENTINEL" Bundle.listD A s' s'.heap := by rw [hhp]; exact vx_Zq.moved hW0.alike (hN.kept hS.2.1)
  have h : ∀ w ∈ Bundle.ownAtoms own ic cls names, w.before args s' = true := vx_own hat' (vx_isRefq hU'.1) (vx_isRefq hN'.1) hU'.2.word hN'.2.word
  have hown' : s'.vm.findClass own = some m.cls := by rw [hvm]; exact hown
  have hins : (Cond.instantiable cls 6).before args s' = true := h _ (by simp [Bundle.ownAtoms])
  obtain ⟨vm₁, cX, kX, hfX, hkX, -, -, X₁, st1⟩ := Y.newCold hexec (own := own) (C := cls) (index := ik) (n := 6) hown' hk' hins hini'
    (g := F0 m pc ls rest) rfl (by rw [hb]; exact d0) (Nat.le_refl _) (Nat.le_refl _)
  generalize hT1 : (T.setVm vm₁).pushCell { cls := cX, slots := kX.instanceTypes.map defaultValue, vm := .none } = T1 at X₁ st1
  have hcat : (Value.ref T.heap.size).category = 1 := rfl
  have hcellA : T1.heap[T.heap.size]? = some (freshCell cX kX) := by rw [← hT1]; exact State.heap_pushCell_size _ _
  have d3' : decode c.code (pc + 3) = .ok (.dup, 1) := by rw [hb]; exact d3
  have d4' : decode c.code (pc + 4) = .ok (.ldc_w is, 3) := by rw [hb]; exact d4
  have hstr' : vk_R own is text sa s' := vk_R.warm hW0 hstr
  obtain ⟨U, hsteps, hrun, hend, hW, hsame, ce, hce, hO⟩ := X₁.ctorThrowS hexec htr (own := own) (cls := cls) (names := names) (ic := ic) hown' hcls hnames h (fun x hx => nomatch hx) hfX hkX hcellA (by rw [hhp, hT]; exact Nat.le_refl _) (msg := .ref sa) rfl
    (g := { method := m, pc := pc + 7, locals := ls, stack := .ref sa :: .ref T.heap.size :: .ref T.heap.size :: rest, locked := none }) rfl hsize rfl rfl (rest := rest) rfl
    (by rw [hb]; exact d7) (by rw [hb]; exact d10) hout hRframes (by simp only [List.map_cons, List.sum_cons, hcat]; omega) hlocks
  obtain ⟨f1, f2⟩ := vx_frame hsame
  rw [hhp] at f1 f2
  have hWs : s.WarmedH U.vm := State.WarmedH.trans hW0 hW
  have hcl : s.vm.findClass cls = some ce.cls := by
    have h9 := hO.cls
    rw [hvm] at h9
    exact h9
  have hall : s.sameButNew ({ U with vm := s.vm } : State) locs mc ms := by
    subst hA
    obtain ⟨e1, e2⟩ := hsame
    rw [State.setFrames_setFrames] at e1
    have h2 : (T.setVm s.vm).sameButNew ({ U with vm := s.vm } : State) [] (0 + 1) (0 + 6) := ⟨e1, e2⟩
    have h3 := X.same.trans h2
    rw [List.append_nil] at h3
    exact h3.mono hc hs
  refine ⟨U, ?_, .threw T.heap.size, hrun, hend, Or.inr ⟨T.heap.size, rfl, cls, ce, locs, hx U hWs.alike f1 (fun q hq => f2 q hq (fun z hz => nomatch hz)), hce, hO.vm, hcl, hWs, hall, hf⟩⟩
  refine st1 _ ?_
  show Steps p.tables e below (T1.setTop { method := m, pc := pc + 3, locals := ls, stack := .ref T.heap.size :: rest, locked := none }) _
  jvm_step X₁.here [X₁.here.top, hexec, d3', Value.category]
  exact X₁.ldcStringW hexec (own := own) (text := text) (index := is) (a := sa) hown' hstr'.1 hstr'.2
    (g := { method := m, pc := pc + 4, locals := ls, stack := .ref T.heap.size :: .ref T.heap.size :: rest, locked := none }) rfl d4' _ hsteps
end Ends
section Bodies
variable {l : Launch}
theorem vx_ofW {y : MethodName} {ws ws' : List Cond} {rm : Room} {Pc : Array Value → State → Prop} {Qc : Array Value → State → Outcome → State → Prop} {XC : String → State → State → Prop} {mc ms : Nat} {free : Addr → Prop} {cc : ByteArray} {maxL : Nat} {ret : Option FieldType}
    (hy : plainName y.cls = true) (hw : ws = Cond.code y cc maxL ret :: ws')
    (body : ∀ p e s m args below meth c s₁, BodyLoose p l y (headSpec ws rm) cc maxL ret e s m args below meth c s₁ → c.maxLocals = maxL → (∀ x ∈ c.exceptionTable.toList, False) → Pc args s →
      W p l e (headSpec ws rm).room s m args below meth c s.heap [] 0 0 (vx_MQ below Qc XC args s mc ms free) (entryFrame m args maxL)) : vx_Met l y ws rm Pc Qc XC mc ms free := by
  refine MetFree.of_bodyS (code := cc) (maxLocals := maxL) (ret := ret) hy ?_ ?_
  · intro args s m h hn
    obtain ⟨meth, c, h1, h2, h3, h4, h5, h6, -, -⟩ := Cond.code_spec hn (atoms_spec (ws := ws) h _ (by rw [hw]; exact List.mem_cons_self))
    exact ⟨meth, c, h1, h2, h3, h4, h5, h6⟩
  · intro p e s m args below meth c s₁ B hml hP _
    have hh0 : s₁.heap = s.heap := by rw [B.state]; rfl
    have ht : ∀ x ∈ c.exceptionTable.toList, False := by
      obtain ⟨meth9, c9, h1, h2, -, -, -, -, h7, -⟩ := Cond.code_spec B.named (atoms_spec (ws := ws) B.pre _ (by rw [hw]; exact List.mem_cons_self))
      cases Option.some.inj (h1.symm.trans B.method)
      cases Option.some.inj (h2.symm.trans (Stand.of_body B).code)
      intro x hx
      rw [Array.isEmpty_iff.mp h7] at hx
      cases hx
    obtain ⟨t, a1, o, b1, b2, b3⟩ := body p e s m args below meth c s₁ B hml ht hP s₁ hh0 (Stand.of_body B)
    exact ⟨t, o, a1, b1, b2, b3⟩
/-- the table of a body with handlers -/
theorem vx_table {p : Program} {x y : MethodName} {S : Spec} {cc bytes : ByteArray} {maxL maxL' : Nat} {ret ret' : Option FieldType} {e : Env} {s s₁ : State} {m : MethodId} {args : Array Value} {below : List Frame} {meth : Method} {c : Code} {hh : List (Nat × Nat × Nat × Nat)}
    (B : BodyLoose p l y S cc maxL ret e s m args below meth c s₁) (h : (Cond.codeWith y bytes maxL' ret' hh).before args s = true) : c.exceptionTable.toList = tableOf hh := by
  obtain ⟨m9, meth9, c9, hn9, h1, h2, -, -, h6, -⟩ := Cond.codeWith_spec h
  cases Option.some.inj (hn9.symm.trans B.named)
  cases Option.some.inj (h1.symm.trans B.method)
  cases Option.some.inj (h2.symm.trans (Stand.of_body B).code)
  rw [← h6, table_eq]
end Bodies
end VXA
/-! ===== END ===== -/
/-! ===== BEGIN a static call of a method with an exception table ===== -/
section VXS
variable {p : Program} {l : Launch} {e : Env} {R : Room} {s : State} {m : MethodId} {args : Array Value} {below : List Frame} {meth : Method} {c : Code} {T : State} {H : Heap} {locs : List Loc} {cells slots : Nat}
abbrev vx_CSW (R : Room) (s : State) (args : Array Value) (own : String) (index : Nat) (y : MethodName) (bytes : ByteArray) (maxL : Nat) (ret : Option FieldType) (hh : List (Nat × Nat × Nat × Nat)) (ws : List Cond) (rm : Room) (mc ms n : Nat) : Prop :=
  (rm.cells = mc ∧ rm.slots = ms ∧ rm.frames + 1 ≤ R.frames ∧ 8 + (maxL + 11) + rm.locals ≤ R.locals ∧ (∀ w ∈ ws, ∀ (a' : Array Value) (U : State), s.WarmedH U.vm → w.before a' U = true) ∧ Cond.codeWith y bytes maxL ret hh ∈ ws) ∧
  (Cond.codeWith y bytes maxL ret hh).before args s = true ∧ (Cond.initialized y.cls).before args s = true ∧ (y.cls ≠ "java/lang/invoke/MethodHandle" ∧ y.cls ≠ "java/lang/invoke/VarHandle") ∧
  (∀ sig, parseMethodDescriptor y.desc = some sig → n = sig.parameters.length) ∧ (Cond.methodLink own index y).before args s = true ∧ (Cond.static y).before args s = true
theorem vx_cwSW {own : String} {index maxL mc ms : Nat} {y : MethodName} {bytes : ByteArray} {ret : Option FieldType} {hh : List (Nat × Nat × Nat × Nat)} {Ts ws ws' : List Cond} {rm : Room} (n : Nat) (ht : ∀ w ∈ Ts, w.before args s = true) (hT : GoodIn Ts (va_wsS own index y ws)) (hw : ws = Cond.codeWith y bytes maxL ret hh :: ws') (hrc : rm.cells = mc) (hrs : rm.slots = ms)
    (hd : y.cls ≠ "java/lang/invoke/MethodHandle" ∧ y.cls ≠ "java/lang/invoke/VarHandle" ∧ (parseMethodDescriptor y.desc).map (fun d => d.parameters.length) = some n) (hR : rm.frames + 1 ≤ R.frames ∧ 8 + (maxL + 11) + rm.locals ≤ R.locals) :
    vx_CSW R s args own index y bytes maxL ret hh ws rm mc ms n := by
  have ok : ∀ w ∈ va_wsS own index y ws, w.before args s = true := fun w h => ht w (hT w h).1
  have hG : GoodIn Ts ws := fun w h => hT w (by unfold va_wsS; exact List.mem_append_right _ h)
  have hc : Cond.codeWith y bytes maxL ret hh ∈ ws := by rw [hw]; exact List.mem_cons_self
  refine ⟨⟨hrc, hrs, hR.1, hR.2, pay_in ht hG, hc⟩, ht _ (hG _ hc).1, ok _ (by simp [va_wsS]), ⟨hd.1, hd.2.1⟩, fun sig h => ?_, ok _ (by simp [va_wsS]), ok _ (by simp [va_wsS])⟩
  have h2 := hd.2.2
  rw [h] at h2
  exact (Option.some.inj h2).symm
theorem vx_callSW (X : Stand p l e R s m args below meth c T locs cells slots) (hexec : p.tables.exec = Jvm.exec) {own : String} {index : Nat} {y : MethodName} {bytes : ByteArray} {maxL : Nat} {ret : Option FieldType} {hh : List (Nat × Nat × Nat × Nat)}
    (hown : s.vm.findClass own = some m.cls) (hlink : (Cond.methodLink own index y).before args s = true) (hstat : (Cond.static y).before args s = true) (hinit : (Cond.initialized y.cls).before args s = true)
    (hcode : (Cond.codeWith y bytes maxL ret hh).before args s = true) (hy : y.cls ≠ "java/lang/invoke/MethodHandle" ∧ y.cls ≠ "java/lang/invoke/VarHandle")
    {W9 : Nat} {Pre : Pt → Array Value → Prop} {Post : Pt → Array Value → Option Value → Pt → Prop} (hK : Back l R p e below s args y 3 W9 Pre Post)
    {g : JFrame} (hg : g.method = m) (hsize : g.locals.size = c.maxLocals) {argsL rest : List Value} (hlen : ∀ sig, parseMethodDescriptor y.desc = some sig → argsL.length = sig.parameters.length)
    (hstack : g.stack = argsL.reverse ++ rest) (hW : 2 * g.monitorRoom + (rest.map fun v => v.category).sum ≤ W9) (hdg : decode c.code g.pc = .ok (.invokestatic index, 3))
    (hpre : ∀ vm₁, s.WarmedH vm₁ → Pre ⟨T.setVm vm₁, locs, cells, slots⟩ argsL.toArray) :
    ∃ (v : Option Value) (vm₁ : Vm) (B : Pt), s.WarmedH vm₁ ∧ Stand p l e R s m args below meth c B.U B.locs B.cells B.slots ∧ Post ⟨T.setVm vm₁, locs, cells, slots⟩ argsL.toArray v B ∧
      ∀ target, Steps p.tables e below (B.U.setTop { g with pc := g.pc + 3, stack := v.toList ++ rest }) target → Steps p.tables e below (T.setTop g) target := by
  obtain ⟨mk, methM, cM, hnamed, hmethM, -, -, -, -, -, -, hsigM⟩ := Cond.codeWith_spec hcode
  have hstatic : methM.isStatic = true := Cond.static_spec hnamed hmethM hstat
  obtain ⟨kP, hkP, -⟩ := className_of_methodNamed hnamed
  have hinitP : kP.init = .initialized := Cond.initialized_spec (findClass_of_methodNamed hnamed) hkP hinit
  obtain ⟨vm₁, X₁, hstep₁⟩ := X.invokestatic hexec hown hlink hnamed hmethM hstatic hkP hinitP hy (g := g) hg (argsL := argsL) (rest := rest) (hlen _ hsigM) hstack hdg
  obtain ⟨v, B, X', hpost, hsteps⟩ := hK m meth c ⟨T.setVm vm₁, locs, cells, slots⟩ { g with stack := rest } (.invokestatic index) mk argsL.toArray X₁ hg hsize hdg hW (X₁.named hnamed) (hpre vm₁ X₁.warmed)
  exact ⟨v, vm₁, B, X₁.warmed, X', hpost, fun target h => hstep₁ _ fun acts => by rw [doInvoke_state]; exact hsteps.trans h⟩
theorem vx_runSW {y : MethodName} {bytes cc : ByteArray} {maxL nL mc ms n index : Nat} {ret : Option FieldType} {hh : List (Nat × Nat × Nat × Nat)} {ws : List Cond} {rm : Room} {Pc : Array Value → State → Prop} {Qc : Array Value → State → Outcome → State → Prop} {free : Addr → Prop} {Ts : List Cond} {own : String} {As rest : List Value} {g : JFrame}
    (S : CallFix p m c cc nL s args Ts own) (hM : Met l y ws rm Pc Qc mc ms free) (cw : vx_CSW R s args own index y bytes maxL ret hh ws rm mc ms n) (hp : PreS s H Pc As)
    (hg : g.method = m) (hn : As.length = n) (hsize : g.locals.size = nL) (hstack : g.stack = As.reverse ++ rest) (hW : 2 * g.monitorRoom + (rest.map fun v => v.category).sum ≤ 8) (hdg : decode cc g.pc = .ok (.invokestatic index, 3)) (hf : cells + mc ≤ R.cells ∧ slots + ms ≤ R.slots) :
    va_Run p l e R s m args below meth c H locs cells slots mc ms g rest (Qc As.toArray) (free) := by
  obtain ⟨⟨hrc, hrs, hfr, hlo, hws, hcw⟩, hcode, hini, hy, hlen, hl, hstt⟩ := cw
  have hK : Back l R p e below s args y 3 8 (PreOf R mc ms Pc) (PostOf Qc mc ms free) := va_backW (hh := hh) (bytes := bytes) (maxL := maxL) (ret := ret) hM hp.1 hrc hrs hfr hlo hws hcw (fun a' U hW => word_at hW (Or.inl (by first | rfl | simp [Cond.onTables, Cond.keeps, Cond.steady])) hini)
  obtain ⟨hx, hb, hml, ho, -⟩ := S
  intro T hT X
  obtain ⟨v, vm₁, ⟨U', l2, c2, s2⟩, hW₁, X', ⟨g', mk, t, L, e1, e2, hq, h1, hL, h2, h3⟩, st⟩ := vx_callSW X hx (hh := hh) (bytes := bytes) (maxL := maxL) (ret := ret) ho hl hstt hini hcode hy hK hg (hsize.trans hml.symm) (argsL := As) (rest := rest) (fun sig h => hn.trans (hlen sig h)) hstack hW (by rw [hb]; exact hdg)
    (fun vm₁ hW₁ => ⟨hf.1, hf.2, hp.2 (T.setVm vm₁) hT hW₁⟩)
  dsimp only [Pt.U, Pt.locs, Pt.cells, Pt.slots] at X' e1 e2 h1 h2 h3 st
  subst h1; subst h2; subst h3
  exact ⟨v, (T.setVm vm₁).calling g' mk As.toArray, t, U', L, hT, X', hL, e1, e2, hq, st⟩
/-- not caught here, past rows that name other classes: it goes on to the caller -/
theorem vx_outP {p : Program} {l : Launch} {e : Env} {R : Room} {s : State} {m : MethodId} {args : Array Value} {below : List Frame} {meth : Method} {c : Code} {H : Heap} {locs : List Loc} {cells slots : Nat} {free : Addr → Prop} {ls : Array Slot} {rest : List Value} {Qc : Array Value → State → Outcome → State → Prop} {XC : String → State → State → Prop}
    {pc : Nat} {own E : String} {ce : Cell} {q : Addr} {mc ms : Nat} (hown : s.vm.findClass own = some m.cls) (hlocks : meth.locks = false)
    (hpass : ∀ z ∈ c.exceptionTable.toList, covers z pc = false ∨ (z.catchType ≠ 0 ∧ ∃ nm : String, (Cond.classLink own z.catchType nm).before args s = true ∧ va_Nc E nm s)) (hcell : H[q]? = some ce) (hv : ce.vm = .none) (hcl : s.vm.findClass E = some ce.cls)
    (hx : ∀ t : State, t.heap = H → s.vm.Alike t.vm → XC E s t) (hf : ∀ z ∈ locs, free z.base) (hc : cells ≤ mc) (hs : slots ≤ ms) :
    vx_W p l e R s m args below meth c H locs cells slots (vx_MQ below Qc XC args s mc ms free) (F0 m pc ls rest) q := by
  intro T hT X
  have hpl : e.platform.magicAccessors = ({} : Platform).magicAccessors := by rw [X.admits.platform]
  obtain ⟨vm', hW', X', st⟩ := X.outThrough hlocks q (g := F0 m pc ls rest) rfl rfl rfl (cell := ce) (by rw [hT]; exact hcell) (by rw [hv]; rfl)
    (by obtain ⟨k9, h9, -⟩ := Vm.findClass_spec hcl; exact ⟨k9, h9⟩) (fun z hz => by
      rcases hpass z hz with h | ⟨hz0, nm, hl1, hn1⟩
      · exact Or.inl h
      · obtain ⟨c6, hc6, hcl6⟩ := Cond.classLink_spec hown hl1 e.platform hpl
        obtain ⟨a8, b8, h1, h2, h3⟩ := hn1
        cases Option.some.inj (h1.symm.trans hcl)
        cases Option.some.inj (h2.symm.trans hc6)
        exact Or.inr ⟨hz0, _, hcl6, h3⟩)
  obtain ⟨g₀, hfr⟩ := X'.frames_eq
  have hcell9 : ((T.setVm vm').setFrames (.throwing q :: below)).heap[q]? = some ce := by
    show T.heap[q]? = some ce
    rw [hT]; exact hcell
  have hend : Ended ((T.setVm vm').setFrames (.throwing q :: below)) below (.threw q) := State.frames_setFrames _ (State.cur_lt_of_frames hfr)
  refine ⟨(T.setVm vm').setFrames (.throwing q :: below), ?_, .threw q, X'.here.running, hend, Or.inr ⟨q, rfl, E, ce, locs, hx _ hT (X'.ends _).1.alike, hcell9, hv, hcl, (X'.ends _).1, (X'.ends _).2.mono hc hs, hf⟩⟩
  rw [X.pushThrowing_eq]
  exact st
/-- a thing of a world lies in the heap -/
theorem vx_lt {D : va_G} {cl : List vw_C} {ws : va_W} {H1 : Heap} (h : va_P D cl ws H1) {k : Nat} {q : Nat × va_E} (hk : ws[k]? = some q) : q.1 < H1.size := (h k q hk).lt
end VXS
/-! ===== END ===== -/
/-! ===== BEGIN methods with a table of their own: called by a name, returning or throwing ===== -/
section VXH
/-! vx_backW, vx_callVX, vx_callSX, vx_callVW, vx_runVW, vx_runVX, vx_runSX, vx_ofWH follow the same proofs as their sisters above (Free/Laws.lean, Shelf42/LK1.lean); vx_outP calls Shelf42/NT130.lean (outThrough). -/
section
variable {l : Launch} {R : Room} {p : Program} {e : Env} {below : List Frame} {s : State} {sargs : Array Value} {y : MethodName} {len W9 : Nat}
theorem vx_backW {ws : List Cond} {rm : Room} {Pc : Array Value → State → Prop} {Qc : Array Value → State → Outcome → State → Prop} {XC : String → State → State → Prop} {mc ms : Nat} {free : Addr → Prop} {bytes : ByteArray} {maxL : Nat} {ret : Option FieldType} {hh : List (Nat × Nat × Nat × Nat)}
    (hM : vx_Met l y ws rm Pc Qc XC mc ms free) (hblind : FrameBlind Pc) (hrc : rm.cells = mc) (hrs : rm.slots = ms)
    (hframes : rm.frames + 1 ≤ R.frames) (hlocals : W9 + (maxL + 11) + rm.locals ≤ R.locals)
    (hws : ∀ w ∈ ws, ∀ a' U, s.WarmedH U.vm → w.before a' U = true) (hcode : Cond.codeWith y bytes maxL ret hh ∈ ws) (hinit : ∀ a' U, s.WarmedH U.vm → (Cond.initialized y.cls).before a' U = true) :
    vx_Back l R p e below s sargs y len W9 (PreOf R mc ms Pc) (PostOf Qc mc ms free) (vx_Post XC mc ms free) := by
  intro m meth c A g ig mk a X hg hsize hdg hW hn hp
  have h1 : (headSpec ws rm).pre.before a A.U = true := atoms_intro fun w hw => hws w hw _ _ X.warmed
  have h2 : (Cond.codeWith y bytes maxL ret hh).before a A.U = true := hws _ hcode _ _ X.warmed
  have h3 : (Cond.initialized y.cls).before a A.U = true := hinit _ _ X.warmed
  have h4 : A.cells + (headSpec ws rm).room.cells ≤ R.cells := by rw [show (headSpec ws rm).room.cells = mc from hrc]; exact hp.1
  have h5 : A.slots + (headSpec ws rm).room.slots ≤ R.slots := by rw [show (headSpec ws rm).room.slots = ms from hrs]; exact hp.2.1
  have hPc : Pc a (A.U.calling g mk a) := hblind _ _ _ _ hp.2.2
  obtain ⟨U, Ls, c0, s0⟩ := A
  dsimp only [Pt.U, Pt.locs, Pt.cells, Pt.slots] at h1 h2 h3 h4 h5 X hn hPc ⊢
  obtain ⟨m9, methY, cY, hn9, hmY, hcY, -, hlY, -⟩ := Cond.codeWith_spec h2
  cases Option.some.inj (hn9.symm.trans hn)
  obtain ⟨kY, hkY, -⟩ := className_of_methodNamed hn
  have hinitY : kY.init = .initialized := Cond.initialized_spec (findClass_of_methodNamed hn) hkY h3
  have h : At U g.method c below := by rw [hg]; exact X.here
  have hlocals9 : W9 + (maxL + 11) + (headSpec ws rm).room.locals ≤ R.locals := hlocals
  have happ : (headSpec ws rm).appliesLoose y e.platform (U.calling g mk a) = true :=
    Spec.appliesLoose_calling (g := g) h hdg hn hkY hinitY
      (X.room_calling (g := g) (R' := (headSpec ws rm).room) hsize hmY hcY hframes (by rw [hlY]; omega) h4 h5) h1
  obtain ⟨mid, hmid⟩ := h.above
  have hfr : (U.setTop g).frames = (.java g :: mid) ++ below := by rw [State.frames_setTop' g h.top, hmid]; rfl
  obtain ⟨o, s₂, hsteps, -, hend, hq⟩ := Steps.callFree hM p X.admits X.cas X.clock (acts := []) hfr happ hPc trivial
  have hq' : vx_Q Qc XC mc ms free a (U.calling g mk a) o s₂ := hq
  rw [State.frames_setTop' g h.top] at hend
  obtain ⟨g₀, hg0⟩ := Option.isSome_iff_exists.mp h.top
  obtain ⟨r, hr⟩ := State.topJava?_eq_some.mp hg0
  have hr' : (({ U with heap := s₂.heap, slotsUsed := s₂.slotsUsed } : State).setVm s₂.vm).frames = .java g₀ :: r := hr
  rcases hq' with ⟨hqc, L, hfe, hL⟩ | ⟨q, rfl, E, ce, L, hx, hce, hcv, hcl, hW₂, hsm, hL⟩
  · obtain ⟨⟨v, rfl⟩, hW₂, e2, q2, q3, q4, q5, q6⟩ := id hfe
    have e3 : s₂ = ({ (U.calling g mk a).setFrames s₂.frames with heap := s₂.heap, slotsUsed := s₂.slotsUsed } : State).setVm s₂.vm := by
      have : s₂ = ({ s₂ with vm := (U.calling g mk a).vm } : State).setVm s₂.vm := rfl
      rw [e2] at this
      exact this
    obtain ⟨c₂, i₂, len₂, hc₂, hd₂, hf₂⟩ := hend
    have hW' : U.WarmedH s₂.vm := hW₂
    have hcc : c₂ = c := by
      have h1 : s₂.code? g.method = U.code? g.method := by
        rw [State.code?_eq, State.code?_eq, hW'.alike.method?]
      exact Option.some.inj (hc₂.symm.trans (h1.trans h.code))
    subst hcc
    have hlen : len₂ = len := by rw [hdg] at hd₂; cases hd₂; rfl
    subst hlen
    have hs₂ : s₂ = (({ U with heap := s₂.heap, slotsUsed := s₂.slotsUsed } : State).setVm s₂.vm).setTop { g with pc := g.pc + len₂, stack := v.toList ++ g.stack } := by
      refine e3.trans ?_
      rw [hf₂, State.calling_eq h.top, State.setFrames_setFrames, State.setTop_of_frames _ hr', hr]
      rfl
    have hsame : U.sameButNew ({ U with heap := s₂.heap, slotsUsed := s₂.slotsUsed } : State) L mc ms := by
      refine ⟨?_, q2, q3, q4, q5, q6⟩
      obtain ⟨t, ht, -⟩ := State.frames_cons hr
      show ({ U with heap := s₂.heap, slotsUsed := s₂.slotsUsed } : State) = { U.setFrames U.frames with heap := s₂.heap, slotsUsed := s₂.slotsUsed }
      rw [State.setFrames_self ht]
    subst hg
    refine Or.inl ⟨v, ⟨(({ U with heap := s₂.heap, slotsUsed := s₂.slotsUsed } : State).setVm s₂.vm), Ls ++ L, c0 + mc, s0 + ms⟩,
      ⟨X.admits, X.cas, X.clock, X.frames, X.room, X.hears, X.method, X.code, (X.here.setHeapUsed s₂.heap s₂.slotsUsed).setVm hW'.alike, X.tail, State.WarmedH.trans X.warmed hW', X.limits, X.bytes, X.same.trans (hsame.setVm s.vm)⟩,
      ⟨g, mk, s₂, L, rfl, rfl, hqc, rfl, hL, rfl, rfl⟩, ?_⟩
    show Steps p.tables e below _ ((({ U with heap := s₂.heap, slotsUsed := s₂.slotsUsed } : State).setVm s₂.vm).setTop { g with pc := g.pc + len₂, stack := v.toList ++ g.stack })
    rw [← hs₂]
    exact hsteps
  · obtain ⟨e2, q2, q3, q4, q5, q6⟩ := id hsm
    have e3 : s₂ = ({ (U.calling g mk a).setFrames s₂.frames with heap := s₂.heap, slotsUsed := s₂.slotsUsed } : State).setVm s₂.vm := by
      have : s₂ = ({ s₂ with vm := (U.calling g mk a).vm } : State).setVm s₂.vm := rfl
      rw [e2] at this
      exact this
    have hf₂ : s₂.frames = .throwing q :: .java g :: U.frames.tail := hend
    have hW' : U.WarmedH s₂.vm := hW₂
    have hs₂ : s₂ = ((({ U with heap := s₂.heap, slotsUsed := s₂.slotsUsed } : State).setVm s₂.vm).setTop g).pushFrame (.throwing q) := by
      refine e3.trans ?_
      rw [hf₂, State.calling_eq h.top, State.setFrames_setFrames, State.pushFrame, State.frames_setTop _ hr', State.setTop_of_frames _ hr', State.setFrames_setFrames, hr]
      rfl
    have hsame : U.sameButNew ({ U with heap := s₂.heap, slotsUsed := s₂.slotsUsed } : State) L mc ms := by
      refine ⟨?_, q2, q3, q4, q5, q6⟩
      obtain ⟨t, ht, -⟩ := State.frames_cons hr
      show ({ U with heap := s₂.heap, slotsUsed := s₂.slotsUsed } : State) = { U.setFrames U.frames with heap := s₂.heap, slotsUsed := s₂.slotsUsed }
      rw [State.setFrames_self ht]
    subst hg
    refine Or.inr ⟨q, ⟨(({ U with heap := s₂.heap, slotsUsed := s₂.slotsUsed } : State).setVm s₂.vm), Ls ++ L, c0 + mc, s0 + ms⟩,
      ⟨X.admits, X.cas, X.clock, X.frames, X.room, X.hears, X.method, X.code, (X.here.setHeapUsed s₂.heap s₂.slotsUsed).setVm hW'.alike, X.tail, State.WarmedH.trans X.warmed hW', X.limits, X.bytes, X.same.trans (hsame.setVm s.vm)⟩,
      ⟨g, mk, s₂, L, E, ce, rfl, rfl, hx, hce, hcv, hcl, rfl, hL, rfl, rfl⟩, ?_⟩
    show Steps p.tables e below _ (((({ U with heap := s₂.heap, slotsUsed := s₂.slotsUsed } : State).setVm s₂.vm).setTop g).pushFrame (.throwing q))
    rw [← hs₂]
    exact hsteps
end
variable {p : Program} {l : Launch} {e : Env} {R : Room} {s : State} {m : MethodId} {args : Array Value} {below : List Frame} {meth : Method} {c : Code} {T : State} {H : Heap} {locs : List Loc} {cells slots : Nat}
theorem vx_callVX (X : Stand p l e R s m args below meth c T locs cells slots) (hexec : p.tables.exec = Jvm.exec) {own C : String} {index : Nat} {y : MethodName} {bytes : ByteArray} {maxL : Nat} {ret : Option FieldType} {hh : List (Nat × Nat × Nat × Nat)}
    (hown : s.vm.findClass own = some m.cls) (hlink : (Cond.methodLink own index y).before args s = true) (hinst : (Cond.instanceMethod y).before args s = true) (hsel : (Cond.selects C y y).before args s = true)
    (hcode : (Cond.codeWith y bytes maxL ret hh).before args s = true) (hy : y.cls ≠ "java/lang/invoke/MethodHandle" ∧ y.cls ≠ "java/lang/invoke/VarHandle")
    {W9 : Nat} {Pre : Pt → Array Value → Prop} {Post : Pt → Array Value → Option Value → Pt → Prop} {PostX : Pt → Array Value → Addr → Pt → Prop} (hK : vx_Back l R p e below s args y 3 W9 Pre Post PostX)
    {b : Addr} {cellB : Cell} (hcell : T.heap[b]? = some cellB) (hobj : cellB.vm.isStatics = false) (hcls : s.vm.findClass C = some cellB.cls)
    {g : JFrame} (hg : g.method = m) (hsize : g.locals.size = c.maxLocals) {argsL rest : List Value} (hlen : ∀ sig, parseMethodDescriptor y.desc = some sig → argsL.length = sig.parameters.length)
    (hstack : g.stack = argsL.reverse ++ .ref b :: rest) (hW : 2 * g.monitorRoom + (rest.map fun v => v.category).sum ≤ W9) (hdg : decode c.code g.pc = .ok (.invokevirtual index, 3))
    (hpre : ∀ vm₁, s.WarmedH vm₁ → Pre ⟨T.setVm vm₁, locs, cells, slots⟩ (Value.ref b :: argsL).toArray) :
    (∃ (v : Option Value) (vm₁ : Vm) (B : Pt), s.WarmedH vm₁ ∧ Stand p l e R s m args below meth c B.U B.locs B.cells B.slots ∧ Post ⟨T.setVm vm₁, locs, cells, slots⟩ (Value.ref b :: argsL).toArray v B ∧
      ∀ target, Steps p.tables e below (B.U.setTop { g with pc := g.pc + 3, stack := v.toList ++ rest }) target → Steps p.tables e below (T.setTop g) target) ∨
    (∃ (q : Addr) (vm₁ : Vm) (B : Pt), s.WarmedH vm₁ ∧ Stand p l e R s m args below meth c B.U B.locs B.cells B.slots ∧ PostX ⟨T.setVm vm₁, locs, cells, slots⟩ (Value.ref b :: argsL).toArray q B ∧
      Steps p.tables e below (T.setTop g) ((B.U.setTop { g with stack := rest }).pushFrame (.throwing q))) := by
  obtain ⟨mk, methM, hnamed, hmethM, hstM, habM⟩ := Cond.instanceMethod_spec hinst
  obtain ⟨m8, methM', cM, hn8, hmethM', -, -, -, -, -, -, hsigM⟩ := Cond.codeWith_spec hcode
  cases Option.some.inj (hn8.symm.trans hnamed)
  cases hmethM.symm.trans hmethM'
  obtain ⟨c2, r2, m2, q1, q2, q3, q4, kP, hkP, hkPi⟩ := Cond.selects_spec hsel
  cases hcls.symm.trans q1
  cases (State.methodFound?_of_named hnamed hy).symm.trans q2
  cases hnamed.symm.trans q3
  have hselP : selectMethod e.platform s.vm cellB.cls mk = .method mk := by rw [Launch.admits_selectMethod X.admits]; exact q4
  obtain ⟨vm₁, X₁, hstep₁⟩ := X.invokevirtual hexec hown hlink hnamed hmethM hstM hkP hkPi hy (a := b) (cell := cellB) hcell
    (fun z h => by rw [h] at hobj; cases hobj) hselP hmethM habM hkP hkPi (g := g) hg (argsL := argsL) (rest := rest) (hlen _ hsigM) hstack hdg
  rcases hK m meth c ⟨T.setVm vm₁, locs, cells, slots⟩ { g with stack := rest } (.invokevirtual index) mk (Value.ref b :: argsL).toArray X₁ hg hsize hdg hW (X₁.named hnamed) (hpre vm₁ X₁.warmed) with ⟨v, B, X', hpost, hsteps⟩ | ⟨q, B, X', hpost, hsteps⟩
  · exact Or.inl ⟨v, vm₁, B, X₁.warmed, X', hpost, fun target h => hstep₁ _ fun acts => by rw [doInvoke_state]; exact hsteps.trans h⟩
  · exact Or.inr ⟨q, vm₁, B, X₁.warmed, X', hpost, hstep₁ _ fun acts => by rw [doInvoke_state]; exact hsteps⟩
theorem vx_callSX (X : Stand p l e R s m args below meth c T locs cells slots) (hexec : p.tables.exec = Jvm.exec) {own : String} {index : Nat} {y : MethodName} {bytes : ByteArray} {maxL : Nat} {ret : Option FieldType} {hh : List (Nat × Nat × Nat × Nat)}
    (hown : s.vm.findClass own = some m.cls) (hlink : (Cond.methodLink own index y).before args s = true) (hstat : (Cond.static y).before args s = true) (hinit : (Cond.initialized y.cls).before args s = true)
    (hcode : (Cond.codeWith y bytes maxL ret hh).before args s = true) (hy : y.cls ≠ "java/lang/invoke/MethodHandle" ∧ y.cls ≠ "java/lang/invoke/VarHandle")
    {W9 : Nat} {Pre : Pt → Array Value → Prop} {Post : Pt → Array Value → Option Value → Pt → Prop} {PostX : Pt → Array Value → Addr → Pt → Prop} (hK : vx_Back l R p e below s args y 3 W9 Pre Post PostX)
    {g : JFrame} (hg : g.method = m) (hsize : g.locals.size = c.maxLocals) {argsL rest : List Value} (hlen : ∀ sig, parseMethodDescriptor y.desc = some sig → argsL.length = sig.parameters.length)
    (hstack : g.stack = argsL.reverse ++ rest) (hW : 2 * g.monitorRoom + (rest.map fun v => v.category).sum ≤ W9) (hdg : decode c.code g.pc = .ok (.invokestatic index, 3))
    (hpre : ∀ vm₁, s.WarmedH vm₁ → Pre ⟨T.setVm vm₁, locs, cells, slots⟩ argsL.toArray) :
    (∃ (v : Option Value) (vm₁ : Vm) (B : Pt), s.WarmedH vm₁ ∧ Stand p l e R s m args below meth c B.U B.locs B.cells B.slots ∧ Post ⟨T.setVm vm₁, locs, cells, slots⟩ argsL.toArray v B ∧
      ∀ target, Steps p.tables e below (B.U.setTop { g with pc := g.pc + 3, stack := v.toList ++ rest }) target → Steps p.tables e below (T.setTop g) target) ∨
    (∃ (q : Addr) (vm₁ : Vm) (B : Pt), s.WarmedH vm₁ ∧ Stand p l e R s m args below meth c B.U B.locs B.cells B.slots ∧ PostX ⟨T.setVm vm₁, locs, cells, slots⟩ argsL.toArray q B ∧
      Steps p.tables e below (T.setTop g) ((B.U.setTop { g with stack := rest }).pushFrame (.throwing q))) := by
  obtain ⟨mk, methM, cM, hnamed, hmethM, -, -, -, -, -, -, hsigM⟩ := Cond.codeWith_spec hcode
  have hstatic : methM.isStatic = true := Cond.static_spec hnamed hmethM hstat
  obtain ⟨kP, hkP, -⟩ := className_of_methodNamed hnamed
  have hinitP : kP.init = .initialized := Cond.initialized_spec (findClass_of_methodNamed hnamed) hkP hinit
  obtain ⟨vm₁, X₁, hstep₁⟩ := X.invokestatic hexec hown hlink hnamed hmethM hstatic hkP hinitP hy (g := g) hg (argsL := argsL) (rest := rest) (hlen _ hsigM) hstack hdg
  rcases hK m meth c ⟨T.setVm vm₁, locs, cells, slots⟩ { g with stack := rest } (.invokestatic index) mk argsL.toArray X₁ hg hsize hdg hW (X₁.named hnamed) (hpre vm₁ X₁.warmed) with ⟨v, B, X', hpost, hsteps⟩ | ⟨q, B, X', hpost, hsteps⟩
  · exact Or.inl ⟨v, vm₁, B, X₁.warmed, X', hpost, fun target h => hstep₁ _ fun acts => by rw [doInvoke_state]; exact hsteps.trans h⟩
  · exact Or.inr ⟨q, vm₁, B, X₁.warmed, X', hpost, hstep₁ _ fun acts => by rw [doInvoke_state]; exact hsteps⟩
theorem vx_callVW (X : Stand p l e R s m args below meth c T locs cells slots) (hexec : p.tables.exec = Jvm.exec) {own C : String} {index : Nat} {y : MethodName} {bytes : ByteArray} {maxL : Nat} {ret : Option FieldType} {hh : List (Nat × Nat × Nat × Nat)}
    (hown : s.vm.findClass own = some m.cls) (hlink : (Cond.methodLink own index y).before args s = true) (hinst : (Cond.instanceMethod y).before args s = true) (hsel : (Cond.selects C y y).before args s = true)
    (hcode : (Cond.codeWith y bytes maxL ret hh).before args s = true) (hy : y.cls ≠ "java/lang/invoke/MethodHandle" ∧ y.cls ≠ "java/lang/invoke/VarHandle")
    {W9 : Nat} {Pre : Pt → Array Value → Prop} {Post : Pt → Array Value → Option Value → Pt → Prop} (hK : Back l R p e below s args y 3 W9 Pre Post)
    {b : Addr} {cellB : Cell} (hcell : T.heap[b]? = some cellB) (hobj : cellB.vm.isStatics = false) (hcls : s.vm.findClass C = some cellB.cls)
    {g : JFrame} (hg : g.method = m) (hsize : g.locals.size = c.maxLocals) {argsL rest : List Value} (hlen : ∀ sig, parseMethodDescriptor y.desc = some sig → argsL.length = sig.parameters.length)
    (hstack : g.stack = argsL.reverse ++ .ref b :: rest) (hW : 2 * g.monitorRoom + (rest.map fun v => v.category).sum ≤ W9) (hdg : decode c.code g.pc = .ok (.invokevirtual index, 3))
    (hpre : ∀ vm₁, s.WarmedH vm₁ → Pre ⟨T.setVm vm₁, locs, cells, slots⟩ (Value.ref b :: argsL).toArray) :
    ∃ (v : Option Value) (vm₁ : Vm) (B : Pt), s.WarmedH vm₁ ∧ Stand p l e R s m args below meth c B.U B.locs B.cells B.slots ∧ Post ⟨T.setVm vm₁, locs, cells, slots⟩ (Value.ref b :: argsL).toArray v B ∧
      ∀ target, Steps p.tables e below (B.U.setTop { g with pc := g.pc + 3, stack := v.toList ++ rest }) target → Steps p.tables e below (T.setTop g) target := by
  obtain ⟨mk, methM, hnamed, hmethM, hstM, habM⟩ := Cond.instanceMethod_spec hinst
  obtain ⟨m8, methM', cM, hn8, hmethM', -, -, -, -, -, -, hsigM⟩ := Cond.codeWith_spec hcode
  cases Option.some.inj (hn8.symm.trans hnamed)
  cases hmethM.symm.trans hmethM'
  obtain ⟨c2, r2, m2, q1, q2, q3, q4, kP, hkP, hkPi⟩ := Cond.selects_spec hsel
  cases hcls.symm.trans q1
  cases (State.methodFound?_of_named hnamed hy).symm.trans q2
  cases hnamed.symm.trans q3
  have hselP : selectMethod e.platform s.vm cellB.cls mk = .method mk := by rw [Launch.admits_selectMethod X.admits]; exact q4
  obtain ⟨vm₁, X₁, hstep₁⟩ := X.invokevirtual hexec hown hlink hnamed hmethM hstM hkP hkPi hy (a := b) (cell := cellB) hcell
    (fun z h => by rw [h] at hobj; cases hobj) hselP hmethM habM hkP hkPi (g := g) hg (argsL := argsL) (rest := rest) (hlen _ hsigM) hstack hdg
  obtain ⟨v, B, X', hpost, hsteps⟩ := hK m meth c ⟨T.setVm vm₁, locs, cells, slots⟩ { g with stack := rest } (.invokevirtual index) mk (Value.ref b :: argsL).toArray X₁ hg hsize hdg hW (X₁.named hnamed) (hpre vm₁ X₁.warmed)
  exact ⟨v, vm₁, B, X₁.warmed, X', hpost, fun target h => hstep₁ _ fun acts => by rw [doInvoke_state]; exact hsteps.trans h⟩
abbrev vx_CVW (R : Room) (s : State) (args : Array Value) (own C : String) (index : Nat) (y : MethodName) (bytes : ByteArray) (maxL : Nat) (ret : Option FieldType) (hh : List (Nat × Nat × Nat × Nat)) (ws : List Cond) (rm : Room) (mc ms n : Nat) : Prop :=
  (rm.cells = mc ∧ rm.slots = ms ∧ rm.frames + 1 ≤ R.frames ∧ 8 + (maxL + 11) + rm.locals ≤ R.locals ∧ (∀ w ∈ ws, ∀ (a' : Array Value) (U : State), s.WarmedH U.vm → w.before a' U = true) ∧ Cond.codeWith y bytes maxL ret hh ∈ ws) ∧
  (Cond.codeWith y bytes maxL ret hh).before args s = true ∧ (Cond.initialized y.cls).before args s = true ∧ (y.cls ≠ "java/lang/invoke/MethodHandle" ∧ y.cls ≠ "java/lang/invoke/VarHandle") ∧
  (∀ sig, parseMethodDescriptor y.desc = some sig → n = sig.parameters.length) ∧ (Cond.methodLink own index y).before args s = true ∧ (Cond.instanceMethod y).before args s = true ∧ (Cond.selects C y y).before args s = true
theorem vx_cwVW {own C : String} {index maxL mc ms : Nat} {y : MethodName} {bytes : ByteArray} {ret : Option FieldType} {hh : List (Nat × Nat × Nat × Nat)} {Ts ws ws' : List Cond} {rm : Room} (n : Nat) (ht : ∀ w ∈ Ts, w.before args s = true) (hT : GoodIn Ts (wsV own index C y ws)) (hw : ws = Cond.codeWith y bytes maxL ret hh :: ws') (hrc : rm.cells = mc) (hrs : rm.slots = ms)
    (hd : y.cls = C ∧ y.cls ≠ "java/lang/invoke/MethodHandle" ∧ y.cls ≠ "java/lang/invoke/VarHandle" ∧ (parseMethodDescriptor y.desc).map (fun d => d.parameters.length) = some n) (hR : rm.frames + 1 ≤ R.frames ∧ 8 + (maxL + 11) + rm.locals ≤ R.locals) :
    vx_CVW R s args own C index y bytes maxL ret hh ws rm mc ms n := by
  obtain ⟨hC, hd⟩ := hd
  subst hC
  have ok : ∀ w ∈ wsV own index y.cls y ws, w.before args s = true := fun w h => ht w (hT w h).1
  have hG : GoodIn Ts ws := fun w h => hT w (by unfold wsV; exact List.mem_append_right _ h)
  have hc : Cond.codeWith y bytes maxL ret hh ∈ ws := by rw [hw]; exact List.mem_cons_self
  refine ⟨⟨hrc, hrs, hR.1, hR.2, pay_in ht hG, hc⟩, ht _ (hG _ hc).1, ok _ (by simp [wsV]), ⟨hd.1, hd.2.1⟩, fun sig h => ?_, ok _ (by simp [wsV]), ok _ (by simp [wsV]), ok _ (by simp [wsV])⟩
  have h2 := hd.2.2
  rw [h] at h2
  exact (Option.some.inj h2).symm
theorem vx_runVW {y : MethodName} {bytes cc : ByteArray} {maxL nL mc ms n index : Nat} {ret : Option FieldType} {hh : List (Nat × Nat × Nat × Nat)} {ws : List Cond} {rm : Room} {Pc : Array Value → State → Prop} {Qc : Array Value → State → Outcome → State → Prop} {free : Addr → Prop} {Ts : List Cond} {own C : String} {b : Addr} {As rest : List Value} {g : JFrame}
    (S : CallFix p m c cc nL s args Ts own) (hM : Met l y ws rm Pc Qc mc ms free) (cw : vx_CVW R s args own C index y bytes maxL ret hh ws rm mc ms n) (hp : PreV s H C b Pc As)
    (hg : g.method = m) (hn : As.length = n) (hsize : g.locals.size = nL) (hstack : g.stack = As.reverse ++ .ref b :: rest) (hW : 2 * g.monitorRoom + (rest.map fun v => v.category).sum ≤ 8) (hdg : decode cc g.pc = .ok (.invokevirtual index, 3)) (hf : cells + mc ≤ R.cells ∧ slots + ms ≤ R.slots) :
    va_Run p l e R s m args below meth c H locs cells slots mc ms g rest (Qc (Value.ref b :: As).toArray) free := by
  obtain ⟨⟨hrc, hrs, hfr, hlo, hws, hcw⟩, hcode, hini, hy, hlen, hl, hin, hse⟩ := cw
  have hK : Back l R p e below s args y 3 8 (PreOf R mc ms Pc) (PostOf Qc mc ms free) := va_backW (hh := hh) (bytes := bytes) (maxL := maxL) (ret := ret) hM hp.1 hrc hrs hfr hlo hws hcw (fun a' U hW => word_at hW (Or.inl (by first | rfl | simp [Cond.onTables, Cond.keeps, Cond.steady])) hini)
  obtain ⟨hx, hb, hml, ho, -⟩ := S
  obtain ⟨-, ⟨cellB, hcB, hoB, hclB⟩, hPc⟩ := hp
  intro T hT X
  obtain ⟨v, vm₁, ⟨U', l2, c2, s2⟩, hW₁, X', ⟨g', mk, t, L, e1, e2, hq, h1, hL, h2, h3⟩, st⟩ := vx_callVW X hx (C := C) (hh := hh) (bytes := bytes) (maxL := maxL) (ret := ret) ho hl hin hse hcode hy hK (by rw [hT]; exact hcB) hoB hclB hg (hsize.trans hml.symm) (argsL := As) (rest := rest) (fun sig h => hn.trans (hlen sig h)) hstack hW (by rw [hb]; exact hdg)
    (fun vm₁ hW₁ => ⟨hf.1, hf.2, hPc (T.setVm vm₁) hT hW₁⟩)
  dsimp only [Pt.U, Pt.locs, Pt.cells, Pt.slots] at X' e1 e2 h1 h2 h3 st
  subst h1; subst h2; subst h3
  exact ⟨v, (T.setVm vm₁).calling g' mk (Value.ref b :: As).toArray, t, U', L, hT, X', hL, e1, e2, hq, st⟩
section
variable {y : MethodName} {bytes cc : ByteArray} {maxL nL mc ms n index : Nat} {ret : Option FieldType} {ws : List Cond} {rm : Room} {Pc : Array Value → State → Prop} {Qc : Array Value → State → Outcome → State → Prop} {XC : String → State → State → Prop} {free : Addr → Prop} {Ts : List Cond} {own C : String} {b : Addr} {As rest : List Value} {g : JFrame}
theorem vx_runVX {hh : List (Nat × Nat × Nat × Nat)} (S : CallFix p m c cc nL s args Ts own) (hM : vx_Met l y ws rm Pc Qc XC mc ms free) (cw : vx_CVW R s args own C index y bytes maxL ret hh ws rm mc ms n) (hp : PreV s H C b Pc As)
    (hg : g.method = m) (hn : As.length = n) (hsize : g.locals.size = nL) (hstack : g.stack = As.reverse ++ .ref b :: rest) (hW : 2 * g.monitorRoom + (rest.map fun v => v.category).sum ≤ 8) (hdg : decode cc g.pc = .ok (.invokevirtual index, 3)) (hf : cells + mc ≤ R.cells ∧ slots + ms ≤ R.slots) :
    vx_Run p l e R s m args below meth c H locs cells slots mc ms g rest (Qc (Value.ref b :: As).toArray) XC free := by
  obtain ⟨⟨hrc, hrs, hfr, hlo, hws, hcw⟩, hcode, hini, hy, hlen, hl, hin, hse⟩ := cw
  have hK : vx_Back l R p e below s args y 3 8 (PreOf R mc ms Pc) (PostOf Qc mc ms free) (vx_Post XC mc ms free) := vx_backW (hh := hh) (bytes := bytes) (maxL := maxL) (ret := ret) hM hp.1 hrc hrs hfr hlo hws hcw (fun a' U hW => word_at hW (Or.inl (by first | rfl | simp [Cond.onTables, Cond.keeps, Cond.steady])) hini)
  obtain ⟨hx, hb, hml, ho, -⟩ := S
  obtain ⟨-, ⟨cellB, hcB, hoB, hclB⟩, hPc⟩ := hp
  intro T hT X
  rcases vx_callVX X hx (C := C) (hh := hh) (bytes := bytes) (maxL := maxL) (ret := ret) ho hl hin hse hcode hy hK (by rw [hT]; exact hcB) hoB hclB hg (hsize.trans hml.symm) (argsL := As) (rest := rest) (fun sig h => hn.trans (hlen sig h)) hstack hW (by rw [hb]; exact hdg)
    (fun vm₁ hW₁ => ⟨hf.1, hf.2, hPc (T.setVm vm₁) hT hW₁⟩) with ⟨v, vm₁, ⟨U', l2, c2, s2⟩, hW₁, X', ⟨g', mk, t, L, e1, e2, hq, h1, hL, h2, h3⟩, st⟩ | ⟨q, vm₁, ⟨U', l2, c2, s2⟩, hW₁, X', ⟨g', mk, t, L, E, ce, e1, e2, hq, hce, hcv, hcl, h1, hL, h2, h3⟩, st⟩
  · dsimp only [Pt.U, Pt.locs, Pt.cells, Pt.slots] at X' e1 e2 h1 h2 h3 st
    subst h1; subst h2; subst h3
    exact Or.inl ⟨v, (T.setVm vm₁).calling g' mk (Value.ref b :: As).toArray, t, U', L, hT, X', hL, e1, e2, hq, st⟩
  · dsimp only [Pt.U, Pt.locs, Pt.cells, Pt.slots] at X' e1 e2 h1 h2 h3 st hcl
    subst h1; subst h2; subst h3
    exact Or.inr ⟨q, (T.setVm vm₁).calling g' mk (Value.ref b :: As).toArray, t, U', L, E, ce, hT, X', hL, e1, e2, hq, hce, hcv, vx_cls hW₁ hcl, st⟩
theorem vx_runSX {hh : List (Nat × Nat × Nat × Nat)} (S : CallFix p m c cc nL s args Ts own) (hM : vx_Met l y ws rm Pc Qc XC mc ms free) (cw : vx_CSW R s args own index y bytes maxL ret hh ws rm mc ms n) (hp : PreS s H Pc As)
    (hg : g.method = m) (hn : As.length = n) (hsize : g.locals.size = nL) (hstack : g.stack = As.reverse ++ rest) (hW : 2 * g.monitorRoom + (rest.map fun v => v.category).sum ≤ 8) (hdg : decode cc g.pc = .ok (.invokestatic index, 3)) (hf : cells + mc ≤ R.cells ∧ slots + ms ≤ R.slots) :
    vx_Run p l e R s m args below meth c H locs cells slots mc ms g rest (Qc As.toArray) XC free := by
  obtain ⟨⟨hrc, hrs, hfr, hlo, hws, hcw⟩, hcode, hini, hy, hlen, hl, hstt⟩ := cw
  have hK : vx_Back l R p e below s args y 3 8 (PreOf R mc ms Pc) (PostOf Qc mc ms free) (vx_Post XC mc ms free) := vx_backW (hh := hh) (bytes := bytes) (maxL := maxL) (ret := ret) hM hp.1 hrc hrs hfr hlo hws hcw (fun a' U hW => word_at hW (Or.inl (by first | rfl | simp [Cond.onTables, Cond.keeps, Cond.steady])) hini)
  obtain ⟨hx, hb, hml, ho, -⟩ := S
  intro T hT X
  rcases vx_callSX X hx (hh := hh) (bytes := bytes) (maxL := maxL) (ret := ret) ho hl hstt hini hcode hy hK hg (hsize.trans hml.symm) (argsL := As) (rest := rest) (fun sig h => hn.trans (hlen sig h)) hstack hW (by rw [hb]; exact hdg)
    (fun vm₁ hW₁ => ⟨hf.1, hf.2, hp.2 (T.setVm vm₁) hT hW₁⟩) with ⟨v, vm₁, ⟨U', l2, c2, s2⟩, hW₁, X', ⟨g', mk, t, L, e1, e2, hq, h1, hL, h2, h3⟩, st⟩ | ⟨q, vm₁, ⟨U', l2, c2, s2⟩, hW₁, X', ⟨g', mk, t, L, E, ce, e1, e2, hq, hce, hcv, hcl, h1, hL, h2, h3⟩, st⟩
  · dsimp only [Pt.U, Pt.locs, Pt.cells, Pt.slots] at X' e1 e2 h1 h2 h3 st
    subst h1; subst h2; subst h3
    exact Or.inl ⟨v, (T.setVm vm₁).calling g' mk As.toArray, t, U', L, hT, X', hL, e1, e2, hq, st⟩
  · dsimp only [Pt.U, Pt.locs, Pt.cells, Pt.slots] at X' e1 e2 h1 h2 h3 st hcl
    subst h1; subst h2; subst h3
    exact Or.inr ⟨q, (T.setVm vm₁).calling g' mk As.toArray, t, U', L, E, ce, hT, X', hL, e1, e2, hq, hce, hcv, vx_cls hW₁ hcl, st⟩
end
end VXH
theorem vx_ofWH {l : Launch} {y : MethodName} {ws ws' : List Cond} {rm : Room} {Pc : Array Value → State → Prop} {Qc : Array Value → State → Outcome → State → Prop} {XC : String → State → State → Prop} {mc ms : Nat} {free : Addr → Prop} {cc : ByteArray} {maxL : Nat} {ret : Option FieldType} {hh : List (Nat × Nat × Nat × Nat)}
    (hy : plainName y.cls = true) (hw : ws = Cond.codeWith y cc maxL ret hh :: ws')
    (body : ∀ p e s m args below meth c s₁, BodyLoose p l y (headSpec ws rm) cc maxL ret e s m args below meth c s₁ → c.maxLocals = maxL → Pc args s →
      W p l e (headSpec ws rm).room s m args below meth c s.heap [] 0 0 (vx_MQ below Qc XC args s mc ms free) (entryFrame m args maxL)) : vx_Met l y ws rm Pc Qc XC mc ms free := by
  refine MetFree.of_bodyS (code := cc) (maxLocals := maxL) (ret := ret) hy ?_ ?_
  · intro args s m h hn
    obtain ⟨m9, meth, c, hn9, h1, h2, h3, h4, -, h5, h6, -⟩ := Cond.codeWith_spec (atoms_spec (ws := ws) h _ (by rw [hw]; exact List.mem_cons_self))
    cases hn.symm.trans hn9
    exact ⟨meth, c, h1, h2, h3, h4, h5, h6⟩
  · intro p e s m args below meth c s₁ B hml hP _
    have hh0 : s₁.heap = s.heap := by rw [B.state]; rfl
    obtain ⟨t, a1, o, b1, b2, b3⟩ := body p e s m args below meth c s₁ B hml hP s₁ hh0 (Stand.of_body B)
    exact ⟨t, o, a1, b1, b2, b3⟩
/-! ===== END ===== -/
end
section
/-! throw new NoSuchElementException("text"): this exception's constructor calls its parent's by entry 13 of its file, not by entry 7 as the printed row vx_throwS takes it. The two laws follow the library's ctorThrowS and the printed vx_throwS, for this one constructor. -/
abbrev nx_E : String := "java/util/NoSuchElementException"
abbrev nx_R : String := "java/lang/RuntimeException"
abbrev nx_r : ByteArray := prog_11_method_4_code
theorem nx_d0 : decode nx_r 0 = .ok (.aload_n 0, 1) := by decide +kernel
theorem nx_d1 : decode nx_r 1 = .ok (.aload_n 1, 1) := by decide +kernel
theorem nx_d2 : decode nx_r 2 = .ok (.invokespecial 13, 3) := by decide +kernel
theorem nx_d5 : decode nx_r 5 = .ok (.return_, 1) := by decide +kernel
/-- the words of such a throw: the library's, but for the constructor's code and its link -/
def nx_A : List Cond := (Bundle.ownAtoms "RankRows" 59 nx_E [nx_R, "java/lang/Exception"]).filter (fun w => decide (w ≠ .code (Bundle.initS nx_E) Bundle.six 2 none) && decide (w ≠ .methodLink nx_E 7 (Bundle.initS nx_R))) ++ [.code (Bundle.initS nx_E) nx_r 2 none, .methodLink nx_E 13 (Bundle.initS nx_R)]
def nx_at : List Cond := nx_A.filter vx_no
set_option maxRecDepth 100000 in
theorem nx_t : ∀ w ∈ Bundle.throwableAtoms, w ∈ nx_A := by decide +kernel
set_option maxRecDepth 100000 in
theorem nx_ts : ∀ w ∈ Bundle.throwableSAtoms, w ∈ nx_A := by decide +kernel
set_option maxRecDepth 100000 in
theorem nx_p : ∀ w ∈ Bundle.passSAtoms nx_E nx_R 13 nx_r, w ∈ nx_A := by decide +kernel
set_option maxRecDepth 100000 in
theorem nx_c : ∀ w ∈ Bundle.chainSAtoms nx_R ["java/lang/Exception"], w ∈ nx_A := by decide +kernel
section NX
variable {p : Program} {l : Launch} {e : Env} {R : Room} {s : State} {m₀ : MethodId} {args : Array Value} {below : List Frame} {meth : Method} {c : Code} {W : State} {locs : List Loc} {cells slots : Nat}
set_option maxHeartbeats 4000000 in
set_option maxRecDepth 100000 in
theorem nx_ctor (X : Stand p l e R s m₀ args below meth c W locs cells slots) (hexec : p.tables.exec = Jvm.exec) (htr : e.platform.stackTraces = false)
    (hown : s.vm.findClass "RankRows" = some m₀.cls) (h : ∀ a ∈ nx_A, a.before args s = true)
    (hlocs : ∀ x ∈ locs, ∀ cell, s.heap[x.base]? = some cell → cell.vm.isStatics = false)
    {a : Addr} {cX : ClassId} {kX : Class} (hfoundX : s.vm.findClass nx_E = some cX) (hkX : s.vm.classes[cX]? = some kX) (hcell : W.heap[a]? = some (freshCell cX kX)) (hnew : s.heap.size ≤ a)
    {msg : Value} (hmsg : msg.isRef = true)
    {g : JFrame} (hg : g.method = m₀) (hsize : g.locals.size = c.maxLocals) (hlocked : g.locked = none) (hentered : g.entered = []) {rest : List Value} (hstack : g.stack = msg :: .ref a :: .ref a :: rest)
    (hd6 : decode c.code g.pc = .ok (.invokespecial 59, 3)) (hd9 : decode c.code (g.pc + 3) = .ok (.athrow, 1)) (hout : ∀ x ∈ c.exceptionTable.toList, covers x (g.pc + 3) = false)
    (hRframes : 2 + 3 < R.frames) (hRlocals : 2 * g.monitorRoom + ((Value.ref a :: rest).map fun v => v.category).sum + (13 * (2 + 1) + 42) ≤ R.locals) (hlocks : meth.locks = false) :
    ∃ U : State, Steps p.tables e below (W.setTop g) U ∧ U.status = .running ∧ Ended U below (.threw a) ∧ s.WarmedH U.vm ∧ s.sameButNew ({ U with vm := s.vm } : State) locs cells slots ∧
      ∃ ce, U.heap[a]? = some ce ∧ s.vm.findClass nx_E = some ce.cls ∧ ce.vm = .none := by
  have howns : e.platform.frameOwnsMonitors = true := by rw [X.admits.platform]
  have hfin : e.platform.finalization = false := by rw [X.admits.platform]
  have hpl : e.platform.magicAccessors = ({} : Platform).magicAccessors := by rw [X.admits.platform]
  have a' : ∀ x, x ∈ nx_A → x.holds args s none s [] = true := fun x hx => h x hx
  obtain ⟨T, Z0, L, -, Y⟩ := ThrowableC.of_atoms (args := args) howns hfin hpl (fun x hx => h x (nx_t x hx))
  obtain ⟨Z, M, LZ, LM, hnZ⟩ := Init0T.ofS_atoms (args := args) hpl L Y (fun x hx => h x (nx_ts x hx))
  obtain ⟨P1, L1, hP1m, hs1⟩ := PassC.ofS_atoms (args := args) (s := s) hpl (X := nx_E) (Y := nx_R) (by decide +kernel) (by decide +kernel) nx_d0 nx_d1 nx_d2 nx_d5 (fun x hx => h x (nx_p x hx))
  obtain ⟨P2, Ps0, hlen0, L2, hL2, hP2m, hl1, hl2⟩ := Bundle.chainS (args := args) hpl hnZ ["java/lang/Exception"] nx_R (by decide +kernel) (by decide +kernel) (fun x hx => h x (nx_c x hx))
  have hfound : s.vm.findClass nx_E = some P1.m.cls := findClass_of_methodNamed hP1m
  cases Option.some.inj (hfoundX.symm.trans hfound)
  obtain ⟨c1, kX', hc1, hk, hord, -, -, hn6⟩ := Cond.instantiable_spec (a' (.instantiable nx_E 6) (by decide +kernel))
  cases Option.some.inj (hc1.symm.trans hfound)
  cases Option.some.inj (hkX.symm.trans hk)
  have hsel0 : selectMethod e.platform s.vm P1.m.cls T.fill0 = .method T.fill0 := by
    obtain ⟨c2, r2, m2, q1, q2, q3, q4, -⟩ := Cond.selects_spec (a' (.selects nx_E Bundle.tFill0 Bundle.tFill0) (by decide +kernel))
    cases Option.some.inj (q1.symm.trans hfound)
    cases Option.some.inj (q2.symm.trans (State.methodFound?_of_named Y.fill0 (by decide)))
    cases Option.some.inj (q3.symm.trans Y.fill0)
    rw [Launch.admits_selectMethod X.admits]; exact q4
  have hselF : selectMethod e.platform s.vm P1.m.cls T.fill = .method T.fill := by
    obtain ⟨c2, r2, m2, q1, q2, q3, q4, -⟩ := Cond.selects_spec (a' (.selects nx_E Bundle.tFill Bundle.tFill) (by decide +kernel))
    cases Option.some.inj (q1.symm.trans hfound)
    cases Option.some.inj (q2.symm.trans (State.methodFound?_of_named Y.fill (by decide)))
    cases Option.some.inj (q3.symm.trans Y.fill)
    rw [Launch.admits_selectMethod X.admits]; exact q4
  obtain ⟨cellS0, hcS0, hiss⟩ := Y.statics
  obtain ⟨u0, hu0⟩ := Cond.staticRefV Y.unassigned L.unassignedStatic L.statics hcS0 hiss (a' (.isRef (.static Bundle.tN "UNASSIGNED_STACK" Bundle.steD)) (by decide +kernel))
  obtain ⟨sen, hsen⟩ := Cond.staticRefV Y.sentinel L.sentinelStatic L.statics hcS0 hiss (a' (.isRef (.static Bundle.tN "SUPPRESSED_SENTINEL" Bundle.listD)) (by decide +kernel))
  obtain ⟨ci198, i198, fB, hk198, hg198, ha198, hsB, -, hnB, htB, hffB⟩ := Cond.ownField (t := .object "java/lang/Object") Y.found L.cls (by decide +kernel) (a' (.fieldLink Bundle.tN 198 Bundle.tN "backtrace" "Ljava/lang/Object;") (by decide +kernel)) (a' (.lays Bundle.tN Bundle.tN "backtrace" "Ljava/lang/Object;") (by decide +kernel)) e.platform hpl
  obtain ⟨cellS, hcS', heS, -, hkeep⟩ := X.same.2.2.2.2.2 T.aS cellS0 hcS0
  have hcellS : W.heap[T.aS]? = some cellS := hcS'
  have hout' : ∀ i, (⟨T.aS, i⟩ : Loc) ∉ locs := fun i hmem => by
    have := hlocs _ hmem cellS0 hcS0
    rw [hiss] at this; cases this
  have hknownS : cellS.vm ≠ .unknown := by
    rw [heS]; intro hu
    rw [show cellS0.vm = .unknown from hu] at hiss
    cases hiss
  have hneS : T.aS ≠ a := Nat.ne_of_lt (Nat.lt_of_lt_of_le (Array.getElem?_eq_some_iff.mp hcS0).1 hnew)
  obtain ⟨iM, hffM⟩ := Y.msg
  obtain ⟨tyC, dC, hdC, hdnC⟩ := Cond.laysAt hfound hk Y.cause (a' (.lays nx_E Bundle.tN "cause" "Ljava/lang/Throwable;") (by decide +kernel))
  obtain ⟨tyS, dS, hdS, hdnS⟩ := Cond.laysAt hfound hk Y.stack (a' (.lays nx_E Bundle.tN "stackTrace" Bundle.steD) (by decide +kernel))
  obtain ⟨tyP, dP, hdP, hdnP⟩ := Cond.laysAt hfound hk Y.supp (a' (.lays nx_E Bundle.tN "suppressedExceptions" Bundle.listD) (by decide +kernel))
  obtain ⟨tyM, dM, hdM, hdnM⟩ := Cond.laysAt hfound hk hffM (a' (.lays nx_E Bundle.tN "detailMessage" "Ljava/lang/String;") (by decide +kernel))
  obtain ⟨tyB, dB, hdB, hdnB⟩ := Cond.laysAt hfound hk hffB (a' (.lays nx_E Bundle.tN "backtrace" "Ljava/lang/Object;") (by decide +kernel))
  have bC := Cond.laysApart hdB hdC hdnB hdnC (by rw [hnB, Y.causeName]; decide)
  have bS := Cond.laysApart hdB hdS hdnB hdnS (by rw [hnB, Y.stackName]; decide)
  have bP := Cond.laysApart hdB hdP hdnB hdnP (by rw [hnB, Y.suppName]; decide)
  have hskip : SkipFacts T e.platform s (fun u => u) u0 ((preparedCellV T.toThrowableT (freshCell P1.m.cls kX) a u0 sen).withEntry W.cur) :=
    ⟨{ ci198 := ci198, i198 := i198, fBack := fB }, ⟨hk198, hg198, ha198, hsB⟩, by
      have := fresh_default (c := P1.m.cls) tyB
      rw [htB] at this
      simpa [preparedCellV, Cell.setSlot, Cell.withEntry, Array.getElem?_setIfInBounds, bC, bS, bP, bC.symm, bS.symm, bP.symm, defaultValue] using this, fun _ _ => rfl⟩
  obtain ⟨tm, methC, cdC, kC, vm₁, hnC, -, -, -, -, -, -, -, hW₁, st1⟩ := Steps.initColdS (tb := p.tables) (e := e) (below := below) (s := s) (U := W) X.here hexec X.warmed hpl hown (t := Bundle.initS nx_E) rfl rfl (by decide +kernel)
    (a' (.methodLink "RankRows" 59 (Bundle.initS nx_E)) (by decide +kernel)) (h (.instanceMethod (Bundle.initS nx_E)) (by decide +kernel)) (bytes := nx_r) (maxL := 2) (h (.code (Bundle.initS nx_E) nx_r 2 none) (by decide +kernel))
    (f := g) hg (a := a) (msg := msg) (rest := .ref a :: rest) hstack hd6
  cases Option.some.inj (hnC.symm.trans hP1m)
  have X₁ := X.noted hW₁
  obtain ⟨vm₂, X₂, st2⟩ := X₁.ctorMessageOffV hexec (g := { g with stack := .ref a :: rest }) hg hsize T L Z LZ M LM (P1 :: P2 :: Ps0)
    (fun P hP => by rcases List.mem_cons.mp hP with rfl | hP; exact L1; rcases List.mem_cons.mp hP with rfl | hP; exact L2; exact hL2 P hP) ⟨Option.some.inj (hs1.symm.trans hP2m), hl1, hl2⟩ (u0 := u0) (sen := sen) (self := a) hmsg (cell := freshCell P1.m.cls kX) (cellS := cellS)
    hcell (fun _ => by simp) (by simp) rfl rfl hsel0 hselF hcellS hneS hknownS (by rw [hkeep _ (hout' _)]; exact hu0) (by rw [hkeep _ (hout' _)]; exact hsen)
    (Takes.of_laid hk hord tyC (by rw [Y.causeType]; rfl)) (Takes.of_laid hk hord tyS (by rw [Y.stackType]; exact fits_refV_array _ u0)) (Takes.of_laid hk hord tyP (by rw [Y.suppType]; exact fits_refV_object _ sen))
    (Takes.of_laid hk hord tyM (by rw [Y.msgType]; exact fits_refV_object _ ⟨msg, hmsg⟩)) Y.objLocals hskip htr [] hd6
    (by simp only [List.length_cons, hlen0, List.length_nil]; omega) (by simp only [List.length_cons, hlen0, List.length_nil]; exact hRlocals)
  obtain ⟨hwalk, hrun, hended, hWU, hsame⟩ := X₂.athrowLeaves hexec (g := { g with stack := .ref a :: rest, pc := g.pc + 3 }) hg hlocked hentered hout (a := a) (rest := rest) rfl hd9
  have hlt : a < ((W.setVm vm₁).setVm vm₂).heap.size := (Array.getElem?_eq_some_iff.mp hcell).1
  have hU := heapAt_setCell_self (s := (W.setVm vm₁).setVm vm₂) (plainBareV T.toThrowableT (freshCell P1.m.cls kX) a u0 sen msg) hlt
  refine ⟨_, st1 _ (fun acts => ?_), hrun, hended, hWU, hsame.weaken (fun y hy hlt' => ?_) (Nat.le_refl _) (Nat.le_refl _), _, hU, hfound, rfl⟩
  · rw [doInvoke_state]
    exact st2 _ hwalk
  · rcases List.mem_append.mp hy with h1 | h1
    · exact h1
    · exfalso
      have hb : y.base = a := by
        simp only [List.mem_cons, List.not_mem_nil, or_false] at h1
        rcases h1 with rfl | rfl | rfl | rfl | rfl <;> rfl
      rw [hb] at hlt'
      exact Nat.not_lt.mpr hnew hlt'
end NX
section NY
variable {p : Program} {l : Launch} {e : Env} {R : Room} {s : State} {m : MethodId} {args : Array Value} {below : List Frame} {meth : Method} {c : Code} {H : Heap} {locs : List Loc} {cells slots : Nat}
variable {free : Addr → Prop} {ls : Array Slot} {rest : List Value} {Qc : Array Value → State → Outcome → State → Prop} {XC : String → State → State → Prop}
set_option maxHeartbeats 4000000 in
theorem nx_throw {cc : ByteArray} {pc : Nat} (hexec : p.tables.exec = Jvm.exec) (hb : c.code = cc) (hl : l.stackTraces = false) {text : String} {is mc ms sa : Nat} {A : Nat → Prop}
    (hown : s.vm.findClass "RankRows" = some m.cls)
    (hk : (Cond.classLink "RankRows" 55 nx_E).before args s = true) (hini : (Cond.initialized nx_E).before args s = true) (hstr : vk_R "RankRows" is text sa s) (hat : ∀ w ∈ nx_at, w.before args s = true)
    (hgood : ∀ w ∈ Cond.classLink "RankRows" 55 nx_E :: Cond.initialized nx_E :: nx_at, vx_ot w = true)
    (hU : vx_Zq Bundle.tN "UNASSIGNED_STACK" Bundle.steD A s s.heap) (hN : vx_Zq Bundle.tN "SUPPRESSED_SENTINEL" Bundle.listD A s s.heap) (hS : va_S A s.heap H locs) (hsize : ls.size = c.maxLocals)
    (d0 : decode cc pc = .ok (.new 55, 3)) (d3 : decode cc (pc + 3) = .ok (.dup, 1)) (d4 : decode cc (pc + 4) = .ok (.ldc is, 2)) (d6 : decode cc (pc + 6) = .ok (.invokespecial 59, 3)) (d9 : decode cc (pc + 9) = .ok (.athrow, 1))
    (hout : ∀ x ∈ c.exceptionTable.toList, covers x (pc + 9) = false)
    (hRframes : 2 + 3 < R.frames) (hRlocals : (rest.map fun v => v.category).sum + (13 * (2 + 1) + 43) ≤ R.locals) (hRcells : cells + 1 ≤ R.cells) (hRslots : slots + 6 ≤ R.slots) (hlocks : meth.locks = false)
    (hx : ∀ t : State, s.vm.Alike t.vm → H.size ≤ t.heap.size → (∀ q : Nat, q < H.size → t.heap[q]? = H[q]?) → XC nx_E s t)
    (hf : ∀ z ∈ locs, free z.base) (hc : cells + 1 ≤ mc) (hs : slots + 6 ≤ ms) :
    W p l e R s m args below meth c H locs cells slots (vx_MQ below Qc XC args s mc ms free) (F0 m pc ls rest) := by
  intro T hT X
  have htr : e.platform.stackTraces = false := (show e.platform.stackTraces = l.stackTraces by rw [X.admits.platform]).trans hl
  have Y := vx_rebase X (R' := { frames := R.frames, locals := R.locals, cells := 1, slots := 6 }) (Nat.le_refl _) (Nat.le_refl _) hRcells hRslots
  obtain ⟨s', hA⟩ : ∃ z, z = (T.setVm s.vm).setFrames (.invoking m args :: below) := ⟨_, rfl⟩
  rw [← hA] at Y
  have hvm : s'.vm = s.vm := by rw [hA]; rfl
  have hhp : s'.heap = H := by rw [hA]; exact hT
  have hW0 : s.WarmedH s'.vm := by rw [hvm]; exact State.WarmedH.refl s
  have hat' : ∀ w ∈ nx_at, w.before args s' = true := fun w hw => vx_ot_at hW0 hvm.symm (hgood w (List.mem_cons_of_mem _ (List.mem_cons_of_mem _ hw))) (hat w hw)
  have hk' : (Cond.classLink "RankRows" 55 nx_E).before args s' = true := vx_ot_at hW0 hvm.symm (hgood _ List.mem_cons_self) hk
  have hini' : (Cond.initialized nx_E).before args s' = true := vx_ot_at hW0 hvm.symm (hgood _ (List.mem_cons_of_mem _ List.mem_cons_self)) hini
  have hU' : vx_Zq Bundle.tN "UNASSIGNED_STACK" Bundle.steD A s' s'.heap := by rw [hhp]; exact vx_Zq.moved hW0.alike (hU.kept hS.2.1)
  have hN' : vx_Zq Bundle.tN "SUPPRESSED_SENTINEL" Bundle.listD A s' s'.heap := by rw [hhp]; exact vx_Zq.moved hW0.alike (hN.kept hS.2.1)
  have h : ∀ w ∈ nx_A, w.before args s' = true := vx_own hat' (vx_isRefq hU'.1) (vx_isRefq hN'.1) hU'.2.word hN'.2.word
  have hown' : s'.vm.findClass "RankRows" = some m.cls := by rw [hvm]; exact hown
  have hins : (Cond.instantiable nx_E 6).before args s' = true := h _ (by decide +kernel)
  obtain ⟨vm₁, cX, kX, hfX, hkX, -, -, X₁, st1⟩ := Y.newCold hexec (own := "RankRows") (C := nx_E) (index := 55) (n := 6) hown' hk' hins hini'
    (g := F0 m pc ls rest) rfl (by rw [hb]; exact d0) (Nat.le_refl _) (Nat.le_refl _)
  generalize hT1 : (T.setVm vm₁).pushCell { cls := cX, slots := kX.instanceTypes.map defaultValue, vm := .none } = T1 at X₁ st1
  have hcat : (Value.ref T.heap.size).category = 1 := rfl
  have hcellA : T1.heap[T.heap.size]? = some (freshCell cX kX) := by rw [← hT1]; exact State.heap_pushCell_size _ _
  have d3' : decode c.code (pc + 3) = .ok (.dup, 1) := by rw [hb]; exact d3
  have d4' : decode c.code (pc + 4) = .ok (.ldc is, 2) := by rw [hb]; exact d4
  have hstr' : vk_R "RankRows" is text sa s' := vk_R.warm hW0 hstr
  obtain ⟨U, hsteps, hrun, hend, hW, hsame, ce, hce, hOc, hOv⟩ := nx_ctor X₁ hexec htr hown' h (fun x hx => nomatch hx) hfX hkX hcellA (by rw [hhp, hT]; exact Nat.le_refl _) (msg := .ref sa) rfl
    (g := { method := m, pc := pc + 6, locals := ls, stack := .ref sa :: .ref T.heap.size :: .ref T.heap.size :: rest, locked := none }) rfl hsize rfl rfl (rest := rest) rfl
    (by rw [hb]; exact d6) (by rw [hb]; exact d9) hout hRframes (by simp only [List.map_cons, List.sum_cons, hcat]; omega) hlocks
  obtain ⟨f1, f2⟩ := vx_frame hsame
  rw [hhp] at f1 f2
  have hWs : s.WarmedH U.vm := State.WarmedH.trans hW0 hW
  have hcl : s.vm.findClass nx_E = some ce.cls := by
    have h9 := hOc
    rw [hvm] at h9
    exact h9
  have hall : s.sameButNew ({ U with vm := s.vm } : State) locs mc ms := by
    subst hA
    obtain ⟨e1, e2⟩ := hsame
    rw [State.setFrames_setFrames] at e1
    have h2 : (T.setVm s.vm).sameButNew ({ U with vm := s.vm } : State) [] (0 + 1) (0 + 6) := ⟨e1, e2⟩
    have h3 := X.same.trans h2
    rw [List.append_nil] at h3
    exact h3.mono hc hs
  refine ⟨U, ?_, .threw T.heap.size, hrun, hend, Or.inr ⟨T.heap.size, rfl, nx_E, ce, locs, hx U hWs.alike f1 (fun q hq => f2 q hq (fun z hz => nomatch hz)), hce, hOv, hcl, hWs, hall, hf⟩⟩
  refine st1 _ ?_
  show Steps p.tables e below (T1.setTop { method := m, pc := pc + 3, locals := ls, stack := .ref T.heap.size :: rest, locked := none }) _
  jvm_step X₁.here [X₁.here.top, hexec, d3', Value.category]
  exact X₁.ldcString hexec (own := "RankRows") (text := text) (index := is) (a := sa) hown' hstr'.1 hstr'.2
    (g := { method := m, pc := pc + 4, locals := ls, stack := .ref T.heap.size :: .ref T.heap.size :: rest, locked := none }) rfl d4' _ hsteps
end NY
end
section
/-! ===== BEGIN printed: names, fields, word lists, decode rows ===== -/
def RX0 : String := "RankRows"
def TX0 : u_T := fun k => match k with
  | 0 => ("RankRows", "row", "[I", true)
  | 1 => ("RankRows", "firsts", "[I", true)
  | 2 => ("RankRows", "seconds", "[I", true)
  | _ => ("RankRows", "count", "I", false)
def tyX0 : Nat → FieldType := fun k => match k with
  | 0 => .array .int
  | 1 => .array .int
  | 2 => .array .int
  | _ => .int
abbrev wsX00 : List Cond := u_ws RX0 TX0 4
theorem nmX0 : ∀ a, a < 4 → ∀ b, b < 4 → a ≠ b → (TX0 a).2.1 ≠ (TX0 b).2.1 := by decide +kernel
theorem tyX0_ok : ∀ k, k < 4 → parseFieldDescriptor (TX0 k).2.2.1 = some (tyX0 k) := by decide +kernel
abbrev cX0_init : ByteArray := prog_1_method_1_code
def yX0_init : MethodName := ⟨RX0, "<init>", "()V"⟩
abbrev cX0_behind : ByteArray := prog_1_method_2_code
def yX0_behind : MethodName := ⟨RX0, "behind", "(IIII)I"⟩
abbrev cX0_before : ByteArray := prog_1_method_3_code
def yX0_before : MethodName := ⟨RX0, "before", "(III)I"⟩
abbrev cX0_weigh : ByteArray := prog_1_method_4_code
def yX0_weigh : MethodName := ⟨RX0, "weigh", "(III)I"⟩
abbrev cX0_find : ByteArray := prog_1_method_5_code
def yX0_find : MethodName := ⟨RX0, "find", "(I)I"⟩
abbrev cX0_sum : ByteArray := prog_1_method_6_code
def yX0_sum : MethodName := ⟨RX0, "sum", "(II)I"⟩
abbrev cX0_next : ByteArray := prog_1_method_7_code
def yX0_next : MethodName := ⟨RX0, "next", "(I)I"⟩
abbrev cX0_place : ByteArray := prog_1_method_8_code
def yX0_place : MethodName := ⟨RX0, "place", "(I)I"⟩
abbrev cX0_entries : ByteArray := prog_1_method_9_code
def yX0_entries : MethodName := ⟨RX0, "entries", "()I"⟩
abbrev cX0_checkWeights : ByteArray := prog_1_method_10_code
def yX0_checkWeights : MethodName := ⟨RX0, "checkWeights", "(II)V"⟩
abbrev cX0_checkEntry : ByteArray := prog_1_method_11_code
def yX0_checkEntry : MethodName := ⟨RX0, "checkEntry", "(I)V"⟩
abbrev cX0_checkEntryOrNone : ByteArray := prog_1_method_12_code
def yX0_checkEntryOrNone : MethodName := ⟨RX0, "checkEntryOrNone", "(I)V"⟩
abbrev cX0_checkRoomFor : ByteArray := prog_1_method_13_code
def yX0_checkRoomFor : MethodName := ⟨RX0, "checkRoomFor", "(I)V"⟩
abbrev cX0_placeOf : ByteArray := prog_1_method_14_code
def yX0_placeOf : MethodName := ⟨RX0, "placeOf", "(I)I"⟩
abbrev cX0_placeBehind : ByteArray := prog_1_method_15_code
def yX0_placeBehind : MethodName := ⟨RX0, "placeBehind", "(I)I"⟩
abbrev cX0_sumInFrontOf : ByteArray := prog_1_method_16_code
def yX0_sumInFrontOf : MethodName := ⟨RX0, "sumInFrontOf", "(I[I)I"⟩
abbrev cX0_putAt : ByteArray := prog_1_method_17_code
def yX0_putAt : MethodName := ⟨RX0, "putAt", "(IIII)V"⟩
def RX1 : String := "RankRowsModel"
def TX1 : u_T := fun k => match k with
  | _ => ("RankRowsModel", "row", "[I", true)
def tyX1 : Nat → FieldType := fun k => match k with
  | _ => .array .int
abbrev wsX10 : List Cond := u_ws RX1 TX1 1
theorem nmX1 : ∀ a, a < 1 → ∀ b, b < 1 → a ≠ b → (TX1 a).2.1 ≠ (TX1 b).2.1 := by decide +kernel
theorem tyX1_ok : ∀ k, k < 1 → parseFieldDescriptor (TX1 k).2.2.1 = some (tyX1 k) := by decide +kernel
abbrev cX1_init : ByteArray := prog_3_method_1_code
def yX1_init : MethodName := ⟨RX1, "<init>", "()V"⟩
def RJ0 : String := "java/lang/String"
def TJ0 : u_T := fun k => match k with
  | _ => ("", "", "", false)
def tyJ0 : Nat → FieldType := fun k => match k with
  | _ => .int
abbrev wsJ00 : List Cond := u_ws RJ0 TJ0 0
theorem nmJ0 : ∀ a, a < 0 → ∀ b, b < 0 → a ≠ b → (TJ0 a).2.1 ≠ (TJ0 b).2.1 := by decide +kernel
theorem tyJ0_ok : ∀ k, k < 0 → parseFieldDescriptor (TJ0 k).2.2.1 = some (tyJ0 k) := by decide +kernel
def RJ10 : String := "java/lang/System"
def TJ10 : u_T := fun k => match k with
  | _ => ("", "", "", false)
def tyJ10 : Nat → FieldType := fun k => match k with
  | _ => .int
abbrev wsJ100 : List Cond := u_ws RJ10 TJ10 0
theorem nmJ10 : ∀ a, a < 0 → ∀ b, b < 0 → a ≠ b → (TJ10 a).2.1 ≠ (TJ10 b).2.1 := by decide +kernel
theorem tyJ10_ok : ∀ k, k < 0 → parseFieldDescriptor (TJ10 k).2.2.1 = some (tyJ10 k) := by decide +kernel
def RL : String := "RankRowsLaw"
abbrev cL_behind : ByteArray := method_3_code
def yL_behind : MethodName := ⟨RL, "behind", "(LRankRows;IIII[J)I"⟩
abbrev cL_before : ByteArray := method_4_code
def yL_before : MethodName := ⟨RL, "before", "(LRankRows;III[J)I"⟩
abbrev cL_weigh : ByteArray := method_5_code
def yL_weigh : MethodName := ⟨RL, "weigh", "(LRankRows;III[J)I"⟩
abbrev cL_find : ByteArray := method_6_code
def yL_find : MethodName := ⟨RL, "find", "(LRankRows;I[J)I"⟩
abbrev cL_sum : ByteArray := method_7_code
def yL_sum : MethodName := ⟨RL, "sum", "(LRankRows;II[J)I"⟩
abbrev cL_next : ByteArray := method_8_code
def yL_next : MethodName := ⟨RL, "next", "(LRankRows;I[J)I"⟩
abbrev cL_place : ByteArray := method_9_code
def yL_place : MethodName := ⟨RL, "place", "(LRankRows;I[J)I"⟩
abbrev cL_law : ByteArray := code
def yL_law : MethodName := ⟨RL, "law", "([I)Z"⟩
def wsX0_init : List Cond := .code yX0_init cX0_init 1 none :: ([.methodLink RX0 1 objectInit, .instanceMethod objectInit, .code objectInit ⟨#[0xb1]⟩ 1 none, .arrayClass .int, .fieldLink RX0 9 "RankRows" "row" "[I", .fieldLink RX0 13 "RankRows" "firsts" "[I", .fieldLink RX0 16 "RankRows" "seconds" "[I", .fieldLink RX0 19 "RankRows" "count" "I"] ++ wsX00)
def wsX0_checkWeights : List Cond := .code yX0_checkWeights cX0_checkWeights 2 none :: ([.classLink RX0 23 "java/lang/IllegalArgumentException", .initialized "java/lang/IllegalArgumentException"] ++ (vx_atS RX0 27 "java/lang/IllegalArgumentException" ["java/lang/RuntimeException", "java/lang/Exception"]).filter goodWord)
def wsX0_checkEntry : List Cond := .code yX0_checkEntry cX0_checkEntry 2 none :: ([.classLink RX0 55 "java/util/NoSuchElementException", .initialized "java/util/NoSuchElementException", .fieldLink RX0 19 "RankRows" "count" "I"] ++ wsX00 ++ (nx_at).filter goodWord)
def wsX0_checkEntryOrNone : List Cond := .code yX0_checkEntryOrNone cX0_checkEntryOrNone 2 none :: ([.methodLink RX0 49 yX0_checkEntry, .instanceMethod yX0_checkEntry, .selects RX0 yX0_checkEntry yX0_checkEntry, .initialized RX0, .code yX0_checkEntry cX0_checkEntry 2 none, .classLink RX0 55 "java/util/NoSuchElementException", .initialized "java/util/NoSuchElementException", .fieldLink RX0 19 "RankRows" "count" "I"] ++ wsX00 ++ (nx_at).filter goodWord)
def wsX0_checkRoomFor : List Cond := .code yX0_checkRoomFor cX0_checkRoomFor 2 none :: ([.classLink RX0 74 "java/lang/IllegalStateException", .initialized "java/lang/IllegalStateException", .fieldLink RX0 19 "RankRows" "count" "I"] ++ wsX00 ++ (vx_atS RX0 78 "java/lang/IllegalStateException" ["java/lang/RuntimeException", "java/lang/Exception"]).filter goodWord)
def wsX0_placeOf : List Cond := .code yX0_placeOf cX0_placeOf 3 (some .int) :: ([.fieldLink RX0 19 "RankRows" "count" "I", .fieldLink RX0 9 "RankRows" "row" "[I"] ++ wsX00)
def wsX0_placeBehind : List Cond := .code yX0_placeBehind cX0_placeBehind 2 (some .int) :: ([.methodLink RX0 52 yX0_placeOf, .instanceMethod yX0_placeOf, .selects RX0 yX0_placeOf yX0_placeOf, .initialized RX0, .code yX0_placeOf cX0_placeOf 3 (some .int), .fieldLink RX0 19 "RankRows" "count" "I", .fieldLink RX0 9 "RankRows" "row" "[I"] ++ wsX00)
def wsX0_putAt : List Cond := .code yX0_putAt cX0_putAt 7 none :: ([.fieldLink RX0 9 "RankRows" "row" "[I", .fieldLink RX0 19 "RankRows" "count" "I", .methodLink RX0 79 arraycopyName, .native arraycopyName, .static arraycopyName, .initialized "java/lang/System", .fieldLink RX0 13 "RankRows" "firsts" "[I", .fieldLink RX0 16 "RankRows" "seconds" "[I"] ++ wsX00)
def wsX0_behind_r1 : List Cond := [Cond.classLink RX0 23 "java/lang/IllegalArgumentException", Cond.initialized "java/lang/IllegalArgumentException", Cond.fieldLink RX0 19 "RankRows" "count" "I", Cond.methodLink RX0 30 yX0_checkWeights, Cond.static yX0_checkWeights, Cond.initialized RX0, Cond.code yX0_checkWeights cX0_checkWeights 2 none, Cond.methodLink RX0 34 yX0_checkEntryOrNone, Cond.instanceMethod yX0_checkEntryOrNone, Cond.selects RX0 yX0_checkEntryOrNone yX0_checkEntryOrNone, Cond.code yX0_checkEntryOrNone cX0_checkEntryOrNone 2 none, Cond.methodLink RX0 49 yX0_checkEntry, Cond.instanceMethod yX0_checkEntry, Cond.selects RX0 yX0_checkEntry yX0_checkEntry, Cond.code yX0_checkEntry cX0_checkEntry 2 none, Cond.classLink RX0 55 "java/util/NoSuchElementException", Cond.initialized "java/util/NoSuchElementException", Cond.methodLink RX0 38 yX0_checkRoomFor, Cond.instanceMethod yX0_checkRoomFor, Cond.selects RX0 yX0_checkRoomFor yX0_checkRoomFor, Cond.code yX0_checkRoomFor cX0_checkRoomFor 2 none, Cond.classLink RX0 74 "java/lang/IllegalStateException", Cond.initialized "java/lang/IllegalStateException", Cond.methodLink RX0 41 yX0_placeBehind]
def wsX0_behind_r2 : List Cond := [Cond.instanceMethod yX0_placeBehind, Cond.selects RX0 yX0_placeBehind yX0_placeBehind, Cond.code yX0_placeBehind cX0_placeBehind 2 (some .int), Cond.methodLink RX0 52 yX0_placeOf, Cond.instanceMethod yX0_placeOf, Cond.selects RX0 yX0_placeOf yX0_placeOf, Cond.code yX0_placeOf cX0_placeOf 3 (some .int), Cond.fieldLink RX0 9 "RankRows" "row" "[I", Cond.methodLink RX0 45 yX0_putAt, Cond.instanceMethod yX0_putAt, Cond.selects RX0 yX0_putAt yX0_putAt, Cond.code yX0_putAt cX0_putAt 7 none, Cond.methodLink RX0 79 arraycopyName, Cond.native arraycopyName, Cond.static arraycopyName, Cond.initialized "java/lang/System", Cond.fieldLink RX0 13 "RankRows" "firsts" "[I", Cond.fieldLink RX0 16 "RankRows" "seconds" "[I"]
def wsX0_behind : List Cond := .code yX0_behind cX0_behind 5 (some .int) :: ((wsX0_behind_r1 ++ wsX0_behind_r2) ++ wsX00 ++ (vx_atS RX0 27 "java/lang/IllegalArgumentException" ["java/lang/RuntimeException", "java/lang/Exception"]).filter goodWord ++ (nx_at).filter goodWord ++ (vx_atS RX0 78 "java/lang/IllegalStateException" ["java/lang/RuntimeException", "java/lang/Exception"]).filter goodWord)
def wsX0_before_r1 : List Cond := [Cond.fieldLink RX0 19 "RankRows" "count" "I", Cond.methodLink RX0 30 yX0_checkWeights, Cond.static yX0_checkWeights, Cond.initialized RX0, Cond.code yX0_checkWeights cX0_checkWeights 2 none, Cond.classLink RX0 23 "java/lang/IllegalArgumentException", Cond.initialized "java/lang/IllegalArgumentException", Cond.methodLink RX0 49 yX0_checkEntry, Cond.instanceMethod yX0_checkEntry, Cond.selects RX0 yX0_checkEntry yX0_checkEntry, Cond.code yX0_checkEntry cX0_checkEntry 2 none, Cond.classLink RX0 55 "java/util/NoSuchElementException", Cond.initialized "java/util/NoSuchElementException", Cond.methodLink RX0 38 yX0_checkRoomFor, Cond.instanceMethod yX0_checkRoomFor, Cond.selects RX0 yX0_checkRoomFor yX0_checkRoomFor, Cond.code yX0_checkRoomFor cX0_checkRoomFor 2 none, Cond.classLink RX0 74 "java/lang/IllegalStateException", Cond.initialized "java/lang/IllegalStateException", Cond.methodLink RX0 52 yX0_placeOf, Cond.instanceMethod yX0_placeOf, Cond.selects RX0 yX0_placeOf yX0_placeOf, Cond.code yX0_placeOf cX0_placeOf 3 (some .int), Cond.fieldLink RX0 9 "RankRows" "row" "[I"]
def wsX0_before_r2 : List Cond := [Cond.methodLink RX0 45 yX0_putAt, Cond.instanceMethod yX0_putAt, Cond.selects RX0 yX0_putAt yX0_putAt, Cond.code yX0_putAt cX0_putAt 7 none, Cond.methodLink RX0 79 arraycopyName, Cond.native arraycopyName, Cond.static arraycopyName, Cond.initialized "java/lang/System", Cond.fieldLink RX0 13 "RankRows" "firsts" "[I", Cond.fieldLink RX0 16 "RankRows" "seconds" "[I"]
def wsX0_before : List Cond := .code yX0_before cX0_before 4 (some .int) :: ((wsX0_before_r1 ++ wsX0_before_r2) ++ wsX00 ++ (vx_atS RX0 27 "java/lang/IllegalArgumentException" ["java/lang/RuntimeException", "java/lang/Exception"]).filter goodWord ++ (nx_at).filter goodWord ++ (vx_atS RX0 78 "java/lang/IllegalStateException" ["java/lang/RuntimeException", "java/lang/Exception"]).filter goodWord)
def wsX0_weigh : List Cond := .code yX0_weigh cX0_weigh 5 (some .int) :: ([.fieldLink RX0 13 "RankRows" "firsts" "[I", .fieldLink RX0 16 "RankRows" "seconds" "[I", .methodLink RX0 30 yX0_checkWeights, .static yX0_checkWeights, .initialized RX0, .code yX0_checkWeights cX0_checkWeights 2 none, .classLink RX0 23 "java/lang/IllegalArgumentException", .initialized "java/lang/IllegalArgumentException", .methodLink RX0 49 yX0_checkEntry, .instanceMethod yX0_checkEntry, .selects RX0 yX0_checkEntry yX0_checkEntry, .code yX0_checkEntry cX0_checkEntry 2 none, .classLink RX0 55 "java/util/NoSuchElementException", .initialized "java/util/NoSuchElementException", .fieldLink RX0 19 "RankRows" "count" "I"] ++ wsX00 ++ (vx_atS RX0 27 "java/lang/IllegalArgumentException" ["java/lang/RuntimeException", "java/lang/Exception"]).filter goodWord ++ (nx_at).filter goodWord)
def wsX0_find : List Cond := .code yX0_find cX0_find 4 (some .int) :: ([.classLink RX0 55 "java/util/NoSuchElementException", .initialized "java/util/NoSuchElementException", .fieldLink RX0 19 "RankRows" "count" "I", .fieldLink RX0 13 "RankRows" "firsts" "[I", .fieldLink RX0 9 "RankRows" "row" "[I"] ++ wsX00 ++ (nx_at).filter goodWord)
def wsX0_sumInFrontOf : List Cond := .code yX0_sumInFrontOf cX0_sumInFrontOf 5 (some .int) :: ([.fieldLink RX0 9 "RankRows" "row" "[I"] ++ wsX00)
def wsX0_sum_r1 : List Cond := [Cond.classLink RX0 23 "java/lang/IllegalArgumentException", Cond.initialized "java/lang/IllegalArgumentException", Cond.fieldLink RX0 19 "RankRows" "count" "I", Cond.fieldLink RX0 13 "RankRows" "firsts" "[I", Cond.fieldLink RX0 16 "RankRows" "seconds" "[I", Cond.methodLink RX0 34 yX0_checkEntryOrNone, Cond.instanceMethod yX0_checkEntryOrNone, Cond.selects RX0 yX0_checkEntryOrNone yX0_checkEntryOrNone, Cond.initialized RX0, Cond.code yX0_checkEntryOrNone cX0_checkEntryOrNone 2 none, Cond.methodLink RX0 49 yX0_checkEntry, Cond.instanceMethod yX0_checkEntry, Cond.selects RX0 yX0_checkEntry yX0_checkEntry, Cond.code yX0_checkEntry cX0_checkEntry 2 none, Cond.classLink RX0 55 "java/util/NoSuchElementException", Cond.initialized "java/util/NoSuchElementException", Cond.methodLink RX0 52 yX0_placeOf, Cond.instanceMethod yX0_placeOf, Cond.selects RX0 yX0_placeOf yX0_placeOf, Cond.code yX0_placeOf cX0_placeOf 3 (some .int), Cond.fieldLink RX0 9 "RankRows" "row" "[I", Cond.methodLink RX0 64 yX0_sumInFrontOf, Cond.instanceMethod yX0_sumInFrontOf, Cond.selects RX0 yX0_sumInFrontOf yX0_sumInFrontOf]
def wsX0_sum_r2 : List Cond := [Cond.code yX0_sumInFrontOf cX0_sumInFrontOf 5 (some .int)]
def wsX0_sum : List Cond := .code yX0_sum cX0_sum 4 (some .int) :: ((wsX0_sum_r1 ++ wsX0_sum_r2) ++ wsX00 ++ (vx_atS RX0 27 "java/lang/IllegalArgumentException" ["java/lang/RuntimeException", "java/lang/Exception"]).filter goodWord ++ (nx_at).filter goodWord)
def wsX0_next : List Cond := .code yX0_next cX0_next 3 (some .int) :: ([.classLink RX0 55 "java/util/NoSuchElementException", .initialized "java/util/NoSuchElementException", .fieldLink RX0 19 "RankRows" "count" "I", .fieldLink RX0 9 "RankRows" "row" "[I", .methodLink RX0 34 yX0_checkEntryOrNone, .instanceMethod yX0_checkEntryOrNone, .selects RX0 yX0_checkEntryOrNone yX0_checkEntryOrNone, .initialized RX0, .code yX0_checkEntryOrNone cX0_checkEntryOrNone 2 none, .methodLink RX0 49 yX0_checkEntry, .instanceMethod yX0_checkEntry, .selects RX0 yX0_checkEntry yX0_checkEntry, .code yX0_checkEntry cX0_checkEntry 2 none, .methodLink RX0 41 yX0_placeBehind, .instanceMethod yX0_placeBehind, .selects RX0 yX0_placeBehind yX0_placeBehind, .code yX0_placeBehind cX0_placeBehind 2 (some .int), .methodLink RX0 52 yX0_placeOf, .instanceMethod yX0_placeOf, .selects RX0 yX0_placeOf yX0_placeOf, .code yX0_placeOf cX0_placeOf 3 (some .int)] ++ wsX00 ++ (nx_at).filter goodWord)
def wsX0_place : List Cond := .code yX0_place cX0_place 2 (some .int) :: ([.methodLink RX0 49 yX0_checkEntry, .instanceMethod yX0_checkEntry, .selects RX0 yX0_checkEntry yX0_checkEntry, .initialized RX0, .code yX0_checkEntry cX0_checkEntry 2 none, .classLink RX0 55 "java/util/NoSuchElementException", .initialized "java/util/NoSuchElementException", .fieldLink RX0 19 "RankRows" "count" "I", .methodLink RX0 52 yX0_placeOf, .instanceMethod yX0_placeOf, .selects RX0 yX0_placeOf yX0_placeOf, .code yX0_placeOf cX0_placeOf 3 (some .int), .fieldLink RX0 9 "RankRows" "row" "[I"] ++ wsX00 ++ (nx_at).filter goodWord)
def wsX0_entries : List Cond := .code yX0_entries cX0_entries 1 (some .int) :: ([.fieldLink RX0 19 "RankRows" "count" "I"] ++ wsX00)
def wsX1_init : List Cond := .code yX1_init cX1_init 1 none :: ([.methodLink RX1 1 objectInit, .instanceMethod objectInit, .code objectInit ⟨#[0xb1]⟩ 1 none, .arrayClass .int, .fieldLink RX1 9 "RankRowsModel" "row" "[I", .fieldLink RX1 13 "RankRowsModel" "first" "[I", .fieldLink RX1 16 "RankRowsModel" "second" "[I"] ++ wsX10)
def wsL_behind_r1 : List Cond := [Cond.classLink RL 13 "java/lang/IllegalArgumentException", Cond.classLink RL 15 "java/util/NoSuchElementException", Cond.classLink RL 17 "java/lang/IllegalStateException", Cond.methodLink RL 7 yX0_behind, Cond.instanceMethod yX0_behind, Cond.selects RX0 yX0_behind yX0_behind, Cond.initialized RX0, Cond.code yX0_behind cX0_behind 5 (some .int), Cond.classLink RX0 23 "java/lang/IllegalArgumentException", Cond.initialized "java/lang/IllegalArgumentException", Cond.fieldLink RX0 19 "RankRows" "count" "I", Cond.methodLink RX0 30 yX0_checkWeights, Cond.static yX0_checkWeights, Cond.code yX0_checkWeights cX0_checkWeights 2 none, Cond.methodLink RX0 34 yX0_checkEntryOrNone, Cond.instanceMethod yX0_checkEntryOrNone, Cond.selects RX0 yX0_checkEntryOrNone yX0_checkEntryOrNone, Cond.code yX0_checkEntryOrNone cX0_checkEntryOrNone 2 none, Cond.methodLink RX0 49 yX0_checkEntry, Cond.instanceMethod yX0_checkEntry, Cond.selects RX0 yX0_checkEntry yX0_checkEntry, Cond.code yX0_checkEntry cX0_checkEntry 2 none, Cond.classLink RX0 55 "java/util/NoSuchElementException", Cond.initialized "java/util/NoSuchElementException"]
def wsL_behind_r2 : List Cond := [Cond.methodLink RX0 38 yX0_checkRoomFor, Cond.instanceMethod yX0_checkRoomFor, Cond.selects RX0 yX0_checkRoomFor yX0_checkRoomFor, Cond.code yX0_checkRoomFor cX0_checkRoomFor 2 none, Cond.classLink RX0 74 "java/lang/IllegalStateException", Cond.initialized "java/lang/IllegalStateException", Cond.methodLink RX0 41 yX0_placeBehind, Cond.instanceMethod yX0_placeBehind, Cond.selects RX0 yX0_placeBehind yX0_placeBehind, Cond.code yX0_placeBehind cX0_placeBehind 2 (some .int), Cond.methodLink RX0 52 yX0_placeOf, Cond.instanceMethod yX0_placeOf, Cond.selects RX0 yX0_placeOf yX0_placeOf, Cond.code yX0_placeOf cX0_placeOf 3 (some .int), Cond.fieldLink RX0 9 "RankRows" "row" "[I", Cond.methodLink RX0 45 yX0_putAt, Cond.instanceMethod yX0_putAt, Cond.selects RX0 yX0_putAt yX0_putAt, Cond.code yX0_putAt cX0_putAt 7 none, Cond.methodLink RX0 79 arraycopyName, Cond.native arraycopyName, Cond.static arraycopyName, Cond.initialized "java/lang/System", Cond.fieldLink RX0 13 "RankRows" "firsts" "[I"]
def wsL_behind_r3 : List Cond := [Cond.fieldLink RX0 16 "RankRows" "seconds" "[I"]
def wsL_behind : List Cond := .codeWith yL_behind cL_behind 7 (some .int) [(0, 14, 17, 13), (0, 14, 21, 15), (0, 14, 25, 17)] :: ((wsL_behind_r1 ++ (wsL_behind_r2 ++ wsL_behind_r3)) ++ wsX00 ++ (vx_atS RX0 27 "java/lang/IllegalArgumentException" ["java/lang/RuntimeException", "java/lang/Exception"]).filter goodWord ++ (nx_at).filter goodWord ++ (vx_atS RX0 78 "java/lang/IllegalStateException" ["java/lang/RuntimeException", "java/lang/Exception"]).filter goodWord)
def wsL_before_r1 : List Cond := [Cond.classLink RL 13 "java/lang/IllegalArgumentException", Cond.classLink RL 15 "java/util/NoSuchElementException", Cond.classLink RL 17 "java/lang/IllegalStateException", Cond.methodLink RL 19 yX0_before, Cond.instanceMethod yX0_before, Cond.selects RX0 yX0_before yX0_before, Cond.initialized RX0, Cond.code yX0_before cX0_before 4 (some .int), Cond.fieldLink RX0 19 "RankRows" "count" "I", Cond.methodLink RX0 30 yX0_checkWeights, Cond.static yX0_checkWeights, Cond.code yX0_checkWeights cX0_checkWeights 2 none, Cond.classLink RX0 23 "java/lang/IllegalArgumentException", Cond.initialized "java/lang/IllegalArgumentException", Cond.methodLink RX0 49 yX0_checkEntry, Cond.instanceMethod yX0_checkEntry, Cond.selects RX0 yX0_checkEntry yX0_checkEntry, Cond.code yX0_checkEntry cX0_checkEntry 2 none, Cond.classLink RX0 55 "java/util/NoSuchElementException", Cond.initialized "java/util/NoSuchElementException", Cond.methodLink RX0 38 yX0_checkRoomFor, Cond.instanceMethod yX0_checkRoomFor, Cond.selects RX0 yX0_checkRoomFor yX0_checkRoomFor, Cond.code yX0_checkRoomFor cX0_checkRoomFor 2 none]
def wsL_before_r2 : List Cond := [Cond.classLink RX0 74 "java/lang/IllegalStateException", Cond.initialized "java/lang/IllegalStateException", Cond.methodLink RX0 52 yX0_placeOf, Cond.instanceMethod yX0_placeOf, Cond.selects RX0 yX0_placeOf yX0_placeOf, Cond.code yX0_placeOf cX0_placeOf 3 (some .int), Cond.fieldLink RX0 9 "RankRows" "row" "[I", Cond.methodLink RX0 45 yX0_putAt, Cond.instanceMethod yX0_putAt, Cond.selects RX0 yX0_putAt yX0_putAt, Cond.code yX0_putAt cX0_putAt 7 none, Cond.methodLink RX0 79 arraycopyName, Cond.native arraycopyName, Cond.static arraycopyName, Cond.initialized "java/lang/System", Cond.fieldLink RX0 13 "RankRows" "firsts" "[I", Cond.fieldLink RX0 16 "RankRows" "seconds" "[I"]
def wsL_before : List Cond := .codeWith yL_before cL_before 6 (some .int) [(0, 12, 15, 13), (0, 12, 19, 15), (0, 12, 23, 17)] :: ((wsL_before_r1 ++ wsL_before_r2) ++ wsX00 ++ (vx_atS RX0 27 "java/lang/IllegalArgumentException" ["java/lang/RuntimeException", "java/lang/Exception"]).filter goodWord ++ (nx_at).filter goodWord ++ (vx_atS RX0 78 "java/lang/IllegalStateException" ["java/lang/RuntimeException", "java/lang/Exception"]).filter goodWord)
def wsL_weigh : List Cond := .codeWith yL_weigh cL_weigh 6 (some .int) [(0, 12, 15, 13), (0, 12, 19, 15)] :: ([.classLink RL 13 "java/lang/IllegalArgumentException", .classLink RL 15 "java/util/NoSuchElementException", .methodLink RL 23 yX0_weigh, .instanceMethod yX0_weigh, .selects RX0 yX0_weigh yX0_weigh, .initialized RX0, .code yX0_weigh cX0_weigh 5 (some .int), .fieldLink RX0 13 "RankRows" "firsts" "[I", .fieldLink RX0 16 "RankRows" "seconds" "[I", .methodLink RX0 30 yX0_checkWeights, .static yX0_checkWeights, .code yX0_checkWeights cX0_checkWeights 2 none, .classLink RX0 23 "java/lang/IllegalArgumentException", .initialized "java/lang/IllegalArgumentException", .methodLink RX0 49 yX0_checkEntry, .instanceMethod yX0_checkEntry, .selects RX0 yX0_checkEntry yX0_checkEntry, .code yX0_checkEntry cX0_checkEntry 2 none, .classLink RX0 55 "java/util/NoSuchElementException", .initialized "java/util/NoSuchElementException", .fieldLink RX0 19 "RankRows" "count" "I"] ++ wsX00 ++ (vx_atS RX0 27 "java/lang/IllegalArgumentException" ["java/lang/RuntimeException", "java/lang/Exception"]).filter goodWord ++ (nx_at).filter goodWord)
def wsL_find : List Cond := .codeWith yL_find cL_find 4 (some .int) [(0, 9, 12, 15)] :: ([.classLink RL 15 "java/util/NoSuchElementException", .methodLink RL 26 yX0_find, .instanceMethod yX0_find, .selects RX0 yX0_find yX0_find, .initialized RX0, .code yX0_find cX0_find 4 (some .int), .classLink RX0 55 "java/util/NoSuchElementException", .initialized "java/util/NoSuchElementException", .fieldLink RX0 19 "RankRows" "count" "I", .fieldLink RX0 13 "RankRows" "firsts" "[I", .fieldLink RX0 9 "RankRows" "row" "[I"] ++ wsX00 ++ (nx_at).filter goodWord)
def wsL_sum_r1 : List Cond := [Cond.classLink RL 13 "java/lang/IllegalArgumentException", Cond.classLink RL 15 "java/util/NoSuchElementException", Cond.methodLink RL 30 yX0_sum, Cond.instanceMethod yX0_sum, Cond.selects RX0 yX0_sum yX0_sum, Cond.initialized RX0, Cond.code yX0_sum cX0_sum 4 (some .int), Cond.classLink RX0 23 "java/lang/IllegalArgumentException", Cond.initialized "java/lang/IllegalArgumentException", Cond.fieldLink RX0 19 "RankRows" "count" "I", Cond.fieldLink RX0 13 "RankRows" "firsts" "[I", Cond.fieldLink RX0 16 "RankRows" "seconds" "[I", Cond.methodLink RX0 34 yX0_checkEntryOrNone, Cond.instanceMethod yX0_checkEntryOrNone, Cond.selects RX0 yX0_checkEntryOrNone yX0_checkEntryOrNone, Cond.code yX0_checkEntryOrNone cX0_checkEntryOrNone 2 none, Cond.methodLink RX0 49 yX0_checkEntry, Cond.instanceMethod yX0_checkEntry, Cond.selects RX0 yX0_checkEntry yX0_checkEntry, Cond.code yX0_checkEntry cX0_checkEntry 2 none, Cond.classLink RX0 55 "java/util/NoSuchElementException", Cond.initialized "java/util/NoSuchElementException", Cond.methodLink RX0 52 yX0_placeOf, Cond.instanceMethod yX0_placeOf]
def wsL_sum_r2 : List Cond := [Cond.selects RX0 yX0_placeOf yX0_placeOf, Cond.code yX0_placeOf cX0_placeOf 3 (some .int), Cond.fieldLink RX0 9 "RankRows" "row" "[I", Cond.methodLink RX0 64 yX0_sumInFrontOf, Cond.instanceMethod yX0_sumInFrontOf, Cond.selects RX0 yX0_sumInFrontOf yX0_sumInFrontOf, Cond.code yX0_sumInFrontOf cX0_sumInFrontOf 5 (some .int)]
def wsL_sum : List Cond := .codeWith yL_sum cL_sum 5 (some .int) [(0, 10, 13, 13), (0, 10, 17, 15)] :: ((wsL_sum_r1 ++ wsL_sum_r2) ++ wsX00 ++ (vx_atS RX0 27 "java/lang/IllegalArgumentException" ["java/lang/RuntimeException", "java/lang/Exception"]).filter goodWord ++ (nx_at).filter goodWord)
def wsL_next_r1 : List Cond := [Cond.classLink RL 15 "java/util/NoSuchElementException", Cond.methodLink RL 34 yX0_next, Cond.instanceMethod yX0_next, Cond.selects RX0 yX0_next yX0_next, Cond.initialized RX0, Cond.code yX0_next cX0_next 3 (some .int), Cond.classLink RX0 55 "java/util/NoSuchElementException", Cond.initialized "java/util/NoSuchElementException", Cond.fieldLink RX0 19 "RankRows" "count" "I", Cond.fieldLink RX0 9 "RankRows" "row" "[I", Cond.methodLink RX0 34 yX0_checkEntryOrNone, Cond.instanceMethod yX0_checkEntryOrNone, Cond.selects RX0 yX0_checkEntryOrNone yX0_checkEntryOrNone, Cond.code yX0_checkEntryOrNone cX0_checkEntryOrNone 2 none, Cond.methodLink RX0 49 yX0_checkEntry, Cond.instanceMethod yX0_checkEntry, Cond.selects RX0 yX0_checkEntry yX0_checkEntry, Cond.code yX0_checkEntry cX0_checkEntry 2 none, Cond.methodLink RX0 41 yX0_placeBehind, Cond.instanceMethod yX0_placeBehind, Cond.selects RX0 yX0_placeBehind yX0_placeBehind, Cond.code yX0_placeBehind cX0_placeBehind 2 (some .int), Cond.methodLink RX0 52 yX0_placeOf, Cond.instanceMethod yX0_placeOf]
def wsL_next_r2 : List Cond := [Cond.selects RX0 yX0_placeOf yX0_placeOf, Cond.code yX0_placeOf cX0_placeOf 3 (some .int)]
def wsL_next : List Cond := .codeWith yL_next cL_next 4 (some .int) [(0, 9, 12, 15)] :: ((wsL_next_r1 ++ wsL_next_r2) ++ wsX00 ++ (nx_at).filter goodWord)
def wsL_place : List Cond := .codeWith yL_place cL_place 4 (some .int) [(0, 9, 12, 15)] :: ([.classLink RL 15 "java/util/NoSuchElementException", .methodLink RL 37 yX0_place, .instanceMethod yX0_place, .selects RX0 yX0_place yX0_place, .initialized RX0, .code yX0_place cX0_place 2 (some .int), .methodLink RX0 49 yX0_checkEntry, .instanceMethod yX0_checkEntry, .selects RX0 yX0_checkEntry yX0_checkEntry, .code yX0_checkEntry cX0_checkEntry 2 none, .classLink RX0 55 "java/util/NoSuchElementException", .initialized "java/util/NoSuchElementException", .fieldLink RX0 19 "RankRows" "count" "I", .methodLink RX0 52 yX0_placeOf, .instanceMethod yX0_placeOf, .selects RX0 yX0_placeOf yX0_placeOf, .code yX0_placeOf cX0_placeOf 3 (some .int), .fieldLink RX0 9 "RankRows" "row" "[I"] ++ wsX00 ++ (nx_at).filter goodWord)
def wsL_law0_r1 : List Cond := [Cond.classLink RL 8 RX0, Cond.instantiable RX0 4, Cond.initialized RX0, Cond.classLink RL 41 RX1, Cond.instantiable RX1 5, Cond.initialized RX1, Cond.methodLink RL 40 yX0_init, Cond.instanceMethod yX0_init, Cond.code yX0_init cX0_init 1 none, Cond.methodLink RX0 1 objectInit, Cond.instanceMethod objectInit, Cond.code objectInit ⟨#[0xb1]⟩ 1 none, Cond.arrayClass .int, Cond.fieldLink RX0 9 "RankRows" "row" "[I", Cond.fieldLink RX0 13 "RankRows" "firsts" "[I", Cond.fieldLink RX0 16 "RankRows" "seconds" "[I", Cond.fieldLink RX0 19 "RankRows" "count" "I", Cond.methodLink RL 43 yX1_init, Cond.instanceMethod yX1_init, Cond.code yX1_init cX1_init 1 none, Cond.methodLink RX1 1 objectInit, Cond.fieldLink RX1 9 "RankRowsModel" "row" "[I", Cond.fieldLink RX1 13 "RankRowsModel" "first" "[I", Cond.fieldLink RX1 16 "RankRowsModel" "second" "[I"]
def wsL_law0_r2 : List Cond := [Cond.methodLink RL 44 yL_behind, Cond.static yL_behind, Cond.initialized RL, Cond.codeWith yL_behind cL_behind 7 (some .int) [(0, 14, 17, 13), (0, 14, 21, 15), (0, 14, 25, 17)], Cond.classLink RL 13 "java/lang/IllegalArgumentException", Cond.classLink RL 15 "java/util/NoSuchElementException", Cond.classLink RL 17 "java/lang/IllegalStateException", Cond.methodLink RL 7 yX0_behind, Cond.instanceMethod yX0_behind, Cond.selects RX0 yX0_behind yX0_behind, Cond.code yX0_behind cX0_behind 5 (some .int), Cond.classLink RX0 23 "java/lang/IllegalArgumentException", Cond.initialized "java/lang/IllegalArgumentException", Cond.methodLink RX0 30 yX0_checkWeights, Cond.static yX0_checkWeights, Cond.code yX0_checkWeights cX0_checkWeights 2 none, Cond.methodLink RX0 34 yX0_checkEntryOrNone, Cond.instanceMethod yX0_checkEntryOrNone, Cond.selects RX0 yX0_checkEntryOrNone yX0_checkEntryOrNone, Cond.code yX0_checkEntryOrNone cX0_checkEntryOrNone 2 none, Cond.methodLink RX0 49 yX0_checkEntry, Cond.instanceMethod yX0_checkEntry, Cond.selects RX0 yX0_checkEntry yX0_checkEntry, Cond.code yX0_checkEntry cX0_checkEntry 2 none]
def wsL_law0_r3 : List Cond := [Cond.classLink RX0 55 "java/util/NoSuchElementException", Cond.initialized "java/util/NoSuchElementException", Cond.methodLink RX0 38 yX0_checkRoomFor, Cond.instanceMethod yX0_checkRoomFor, Cond.selects RX0 yX0_checkRoomFor yX0_checkRoomFor, Cond.code yX0_checkRoomFor cX0_checkRoomFor 2 none, Cond.classLink RX0 74 "java/lang/IllegalStateException", Cond.initialized "java/lang/IllegalStateException", Cond.methodLink RX0 41 yX0_placeBehind, Cond.instanceMethod yX0_placeBehind, Cond.selects RX0 yX0_placeBehind yX0_placeBehind, Cond.code yX0_placeBehind cX0_placeBehind 2 (some .int), Cond.methodLink RX0 52 yX0_placeOf, Cond.instanceMethod yX0_placeOf, Cond.selects RX0 yX0_placeOf yX0_placeOf, Cond.code yX0_placeOf cX0_placeOf 3 (some .int), Cond.methodLink RX0 45 yX0_putAt, Cond.instanceMethod yX0_putAt, Cond.selects RX0 yX0_putAt yX0_putAt, Cond.code yX0_putAt cX0_putAt 7 none, Cond.methodLink RX0 79 arraycopyName, Cond.native arraycopyName, Cond.static arraycopyName, Cond.initialized "java/lang/System"]
def wsL_law0_r4 : List Cond := [Cond.methodLink RL 54 yL_before, Cond.static yL_before, Cond.codeWith yL_before cL_before 6 (some .int) [(0, 12, 15, 13), (0, 12, 19, 15), (0, 12, 23, 17)], Cond.methodLink RL 19 yX0_before, Cond.instanceMethod yX0_before, Cond.selects RX0 yX0_before yX0_before, Cond.code yX0_before cX0_before 4 (some .int), Cond.methodLink RL 58 yL_weigh, Cond.static yL_weigh, Cond.codeWith yL_weigh cL_weigh 6 (some .int) [(0, 12, 15, 13), (0, 12, 19, 15)], Cond.methodLink RL 23 yX0_weigh, Cond.instanceMethod yX0_weigh, Cond.selects RX0 yX0_weigh yX0_weigh, Cond.code yX0_weigh cX0_weigh 5 (some .int), Cond.methodLink RL 61 yL_find, Cond.static yL_find, Cond.codeWith yL_find cL_find 4 (some .int) [(0, 9, 12, 15)], Cond.methodLink RL 26 yX0_find, Cond.instanceMethod yX0_find, Cond.selects RX0 yX0_find yX0_find, Cond.code yX0_find cX0_find 4 (some .int), Cond.methodLink RL 65 yL_sum, Cond.static yL_sum, Cond.codeWith yL_sum cL_sum 5 (some .int) [(0, 10, 13, 13), (0, 10, 17, 15)]]
def wsL_law0_r5 : List Cond := [Cond.methodLink RL 30 yX0_sum, Cond.instanceMethod yX0_sum, Cond.selects RX0 yX0_sum yX0_sum, Cond.code yX0_sum cX0_sum 4 (some .int), Cond.methodLink RX0 64 yX0_sumInFrontOf, Cond.instanceMethod yX0_sumInFrontOf, Cond.selects RX0 yX0_sumInFrontOf yX0_sumInFrontOf, Cond.code yX0_sumInFrontOf cX0_sumInFrontOf 5 (some .int), Cond.methodLink RL 69 yL_next, Cond.static yL_next, Cond.codeWith yL_next cL_next 4 (some .int) [(0, 9, 12, 15)], Cond.methodLink RL 34 yX0_next, Cond.instanceMethod yX0_next, Cond.selects RX0 yX0_next yX0_next, Cond.code yX0_next cX0_next 3 (some .int), Cond.methodLink RL 72 yL_place, Cond.static yL_place, Cond.codeWith yL_place cL_place 4 (some .int) [(0, 9, 12, 15)], Cond.methodLink RL 37 yX0_place, Cond.instanceMethod yX0_place, Cond.selects RX0 yX0_place yX0_place, Cond.code yX0_place cX0_place 2 (some .int), Cond.methodLink RL 75 yX0_entries, Cond.instanceMethod yX0_entries]
def wsL_law0_r6 : List Cond := [Cond.selects RX0 yX0_entries yX0_entries, Cond.code yX0_entries cX0_entries 1 (some .int)]
def wsL_law0 : List Cond := (wsL_law0_r1 ++ (wsL_law0_r2 ++ (wsL_law0_r3 ++ (wsL_law0_r4 ++ (wsL_law0_r5 ++ wsL_law0_r6))))) ++ wsX00 ++ wsX10 ++ ([] : List Cond)
def wsL_law : List Cond := wsL_law0 ++ (vx_atS RX0 27 "java/lang/IllegalArgumentException" ["java/lang/RuntimeException", "java/lang/Exception"]).filter goodWord ++ (nx_at).filter goodWord ++ (vx_atS RX0 78 "java/lang/IllegalStateException" ["java/lang/RuntimeException", "java/lang/Exception"]).filter goodWord
set_option maxRecDepth 20000 in
theorem wsL_law_in0 : ∀ w ∈ wsL_law0, w ∈ lw_tbl := by decide +kernel
theorem wsL_law_x0 : ∀ w ∈ (vx_atS RX0 27 "java/lang/IllegalArgumentException" ["java/lang/RuntimeException", "java/lang/Exception"]).filter goodWord, w ∈ lw_tbl := by decide +kernel
theorem wsL_law_x1 : ∀ w ∈ (nx_at).filter goodWord, w ∈ lw_tbl := by decide +kernel
theorem wsL_law_x2 : ∀ w ∈ (vx_atS RX0 78 "java/lang/IllegalStateException" ["java/lang/RuntimeException", "java/lang/Exception"]).filter goodWord, w ∈ lw_tbl := by decide +kernel
theorem wsL_law_in : ∀ w ∈ wsL_law, w ∈ lw_tbl := fun w h => (List.mem_append.mp h).elim (fun h => (List.mem_append.mp h).elim (fun h => (List.mem_append.mp h).elim (fun h => wsL_law_in0 w h) (fun h => wsL_law_x0 w h)) (fun h => wsL_law_x1 w h)) (fun h => wsL_law_x2 w h)
theorem inlX0 : ∀ w ∈ wsX00, w ∈ wsL_law := fun _ h => List.mem_append_left _ (List.mem_append_left _ (List.mem_append_left _ (List.mem_append_left _ (List.mem_append_left _ (List.mem_append_right _ h)))))
theorem inX0 : ∀ w ∈ wsX00, w ∈ lw_tbl := fun w h => wsL_law_in w (inlX0 w h)
theorem inlX1 : ∀ w ∈ wsX10, w ∈ wsL_law := fun _ h => List.mem_append_left _ (List.mem_append_left _ (List.mem_append_left _ (List.mem_append_left _ (List.mem_append_right _ h))))
theorem inX1 : ∀ w ∈ wsX10, w ∈ lw_tbl := fun w h => wsL_law_in w (inlX1 w h)
theorem inJ0 : ∀ w ∈ wsJ00, w ∈ lw_tbl := by decide +kernel
theorem inJ10 : ∀ w ∈ wsJ100, w ∈ lw_tbl := by decide +kernel
theorem dX0_init_0 : decode cX0_init 0 = .ok (.aload_n 0, 1) := by decide +kernel
theorem dX0_init_1 : decode cX0_init 1 = .ok (.invokespecial 1, 3) := by decide +kernel
theorem dX0_init_4 : decode cX0_init 4 = .ok (.aload_n 0, 1) := by decide +kernel
theorem dX0_init_5 : decode cX0_init 5 = .ok (.sipush 4000, 3) := by decide +kernel
theorem dX0_init_8 : decode cX0_init 8 = .ok (.newarray .int, 2) := by decide +kernel
theorem dX0_init_10 : decode cX0_init 10 = .ok (.putfield 9, 3) := by decide +kernel
theorem dX0_init_13 : decode cX0_init 13 = .ok (.aload_n 0, 1) := by decide +kernel
theorem dX0_init_14 : decode cX0_init 14 = .ok (.sipush 4000, 3) := by decide +kernel
theorem dX0_init_17 : decode cX0_init 17 = .ok (.newarray .int, 2) := by decide +kernel
theorem dX0_init_19 : decode cX0_init 19 = .ok (.putfield 13, 3) := by decide +kernel
theorem dX0_init_22 : decode cX0_init 22 = .ok (.aload_n 0, 1) := by decide +kernel
theorem dX0_init_23 : decode cX0_init 23 = .ok (.sipush 4000, 3) := by decide +kernel
theorem dX0_init_26 : decode cX0_init 26 = .ok (.newarray .int, 2) := by decide +kernel
theorem dX0_init_28 : decode cX0_init 28 = .ok (.putfield 16, 3) := by decide +kernel
theorem dX0_init_31 : decode cX0_init 31 = .ok (.aload_n 0, 1) := by decide +kernel
theorem dX0_init_32 : decode cX0_init 32 = .ok (.iconst 0, 1) := by decide +kernel
theorem dX0_init_33 : decode cX0_init 33 = .ok (.putfield 19, 3) := by decide +kernel
theorem dX0_init_36 : decode cX0_init 36 = .ok (.return_, 1) := by decide +kernel
set_option maxRecDepth 20000 in
theorem ggX0_behind_X0_checkWeights : GoodIn wsX0_behind wsX0_checkWeights := goodIn_ca (goodIn_r _ [7, 1, 2] (by decide +kernel) (by decide +kernel)) (goodIn_sub (fun _ h => List.mem_cons_of_mem _ (List.mem_append_left _ (List.mem_append_left _ (List.mem_append_right _ h)))) (by decide +kernel))
set_option maxRecDepth 20000 in
theorem gX0_behind_X0_checkWeights : GoodIn wsX0_behind (va_wsS RX0 30 yX0_checkWeights wsX0_checkWeights) := goodIn_app (goodIn_of _ (by decide +kernel)) ggX0_behind_X0_checkWeights
set_option maxRecDepth 20000 in
theorem ggX0_behind_X0_checkEntryOrNone : GoodIn wsX0_behind wsX0_checkEntryOrNone := goodIn_ca (goodIn_r _ [11, 12, 13, 14, 6, 15, 16, 17, 3, 43, 44, 45, 46] (by decide +kernel) (by decide +kernel)) (goodIn_sub (fun _ h => List.mem_cons_of_mem _ (List.mem_append_left _ (List.mem_append_right _ h))) (by decide +kernel))
set_option maxRecDepth 20000 in
theorem gX0_behind_X0_checkEntryOrNone : GoodIn wsX0_behind (wsV RX0 34 RX0 yX0_checkEntryOrNone wsX0_checkEntryOrNone) := goodIn_app (goodIn_of _ (by decide +kernel)) ggX0_behind_X0_checkEntryOrNone
set_option maxRecDepth 20000 in
theorem ggX0_behind_X0_checkRoomFor : GoodIn wsX0_behind wsX0_checkRoomFor := goodIn_ca (goodIn_r _ [21, 22, 23, 3, 43, 44, 45, 46] (by decide +kernel) (by decide +kernel)) (goodIn_sub (fun _ h => List.mem_cons_of_mem _ (List.mem_append_right _ h)) (by decide +kernel))
set_option maxRecDepth 20000 in
theorem gX0_behind_X0_checkRoomFor : GoodIn wsX0_behind (wsV RX0 38 RX0 yX0_checkRoomFor wsX0_checkRoomFor) := goodIn_app (goodIn_of _ (by decide +kernel)) ggX0_behind_X0_checkRoomFor
set_option maxRecDepth 20000 in
theorem ggX0_behind_X0_placeBehind : GoodIn wsX0_behind wsX0_placeBehind := goodIn_r _ [27, 28, 29, 30, 6, 31, 3, 32, 43, 44, 45, 46] (by decide +kernel) (by decide +kernel)
set_option maxRecDepth 20000 in
theorem gX0_behind_X0_placeBehind : GoodIn wsX0_behind (wsV RX0 41 RX0 yX0_placeBehind wsX0_placeBehind) := goodIn_app (goodIn_of _ (by decide +kernel)) ggX0_behind_X0_placeBehind
set_option maxRecDepth 20000 in
theorem ggX0_behind_X0_putAt : GoodIn wsX0_behind wsX0_putAt := goodIn_r _ [36, 32, 3, 37, 38, 39, 40, 41, 42, 43, 44, 45, 46] (by decide +kernel) (by decide +kernel)
set_option maxRecDepth 20000 in
theorem gX0_behind_X0_putAt : GoodIn wsX0_behind (wsV RX0 45 RX0 yX0_putAt wsX0_putAt) := goodIn_app (goodIn_of _ (by decide +kernel)) ggX0_behind_X0_putAt
theorem dX0_behind_0 : decode cX0_behind 0 = .ok (.iload_n 2, 1) := by decide +kernel
theorem dX0_behind_1 : decode cX0_behind 1 = .ok (.iconst 1, 1) := by decide +kernel
theorem dX0_behind_2 : decode cX0_behind 2 = .ok (.if_icmp .lt 10, 3) := by decide +kernel
theorem dX0_behind_5 : decode cX0_behind 5 = .ok (.iload_n 2, 1) := by decide +kernel
theorem dX0_behind_6 : decode cX0_behind 6 = .ok (.sipush 200, 3) := by decide +kernel
theorem dX0_behind_9 : decode cX0_behind 9 = .ok (.if_icmp .le 13, 3) := by decide +kernel
theorem dX0_behind_12 : decode cX0_behind 12 = .ok (.new 23, 3) := by decide +kernel
theorem dX0_behind_15 : decode cX0_behind 15 = .ok (.dup, 1) := by decide +kernel
theorem dX0_behind_16 : decode cX0_behind 16 = .ok (.ldc 25, 2) := by decide +kernel
theorem dX0_behind_18 : decode cX0_behind 18 = .ok (.invokespecial 27, 3) := by decide +kernel
theorem dX0_behind_21 : decode cX0_behind 21 = .ok (.athrow, 1) := by decide +kernel
theorem dX0_behind_22 : decode cX0_behind 22 = .ok (.iload_n 3, 1) := by decide +kernel
theorem dX0_behind_23 : decode cX0_behind 23 = .ok (.iload 4, 2) := by decide +kernel
theorem dX0_behind_25 : decode cX0_behind 25 = .ok (.invokestatic 30, 3) := by decide +kernel
theorem dX0_behind_28 : decode cX0_behind 28 = .ok (.aload_n 0, 1) := by decide +kernel
theorem dX0_behind_29 : decode cX0_behind 29 = .ok (.iload_n 1, 1) := by decide +kernel
theorem dX0_behind_30 : decode cX0_behind 30 = .ok (.invokevirtual 34, 3) := by decide +kernel
theorem dX0_behind_33 : decode cX0_behind 33 = .ok (.aload_n 0, 1) := by decide +kernel
theorem dX0_behind_34 : decode cX0_behind 34 = .ok (.iload_n 2, 1) := by decide +kernel
theorem dX0_behind_35 : decode cX0_behind 35 = .ok (.invokevirtual 38, 3) := by decide +kernel
theorem dX0_behind_38 : decode cX0_behind 38 = .ok (.aload_n 0, 1) := by decide +kernel
theorem dX0_behind_39 : decode cX0_behind 39 = .ok (.aload_n 0, 1) := by decide +kernel
theorem dX0_behind_40 : decode cX0_behind 40 = .ok (.iload_n 1, 1) := by decide +kernel
theorem dX0_behind_41 : decode cX0_behind 41 = .ok (.invokevirtual 41, 3) := by decide +kernel
theorem dX0_behind_44 : decode cX0_behind 44 = .ok (.iload_n 2, 1) := by decide +kernel
theorem dX0_behind_45 : decode cX0_behind 45 = .ok (.iload_n 3, 1) := by decide +kernel
theorem dX0_behind_46 : decode cX0_behind 46 = .ok (.iload 4, 2) := by decide +kernel
theorem dX0_behind_48 : decode cX0_behind 48 = .ok (.invokevirtual 45, 3) := by decide +kernel
theorem dX0_behind_51 : decode cX0_behind 51 = .ok (.aload_n 0, 1) := by decide +kernel
theorem dX0_behind_52 : decode cX0_behind 52 = .ok (.getfield 19, 3) := by decide +kernel
theorem dX0_behind_55 : decode cX0_behind 55 = .ok (.iconst 1, 1) := by decide +kernel
theorem dX0_behind_56 : decode cX0_behind 56 = .ok (.isub, 1) := by decide +kernel
theorem dX0_behind_57 : decode cX0_behind 57 = .ok (.ireturn, 1) := by decide +kernel
set_option maxRecDepth 20000 in
theorem ggX0_before_X0_checkWeights : GoodIn wsX0_before wsX0_checkWeights := goodIn_ca (goodIn_r _ [5, 6, 7] (by decide +kernel) (by decide +kernel)) (goodIn_sub (fun _ h => List.mem_cons_of_mem _ (List.mem_append_left _ (List.mem_append_left _ (List.mem_append_right _ h)))) (by decide +kernel))
set_option maxRecDepth 20000 in
theorem gX0_before_X0_checkWeights : GoodIn wsX0_before (va_wsS RX0 30 yX0_checkWeights wsX0_checkWeights) := goodIn_app (goodIn_of _ (by decide +kernel)) ggX0_before_X0_checkWeights
set_option maxRecDepth 20000 in
theorem ggX0_before_X0_checkEntry : GoodIn wsX0_before wsX0_checkEntry := goodIn_ca (goodIn_r _ [11, 12, 13, 1, 35, 36, 37, 38] (by decide +kernel) (by decide +kernel)) (goodIn_sub (fun _ h => List.mem_cons_of_mem _ (List.mem_append_left _ (List.mem_append_right _ h))) (by decide +kernel))
set_option maxRecDepth 20000 in
theorem gX0_before_X0_checkEntry : GoodIn wsX0_before (wsV RX0 49 RX0 yX0_checkEntry wsX0_checkEntry) := goodIn_app (goodIn_of _ (by decide +kernel)) ggX0_before_X0_checkEntry
set_option maxRecDepth 20000 in
theorem ggX0_before_X0_checkRoomFor : GoodIn wsX0_before wsX0_checkRoomFor := goodIn_ca (goodIn_r _ [17, 18, 19, 1, 35, 36, 37, 38] (by decide +kernel) (by decide +kernel)) (goodIn_sub (fun _ h => List.mem_cons_of_mem _ (List.mem_append_right _ h)) (by decide +kernel))
set_option maxRecDepth 20000 in
theorem gX0_before_X0_checkRoomFor : GoodIn wsX0_before (wsV RX0 38 RX0 yX0_checkRoomFor wsX0_checkRoomFor) := goodIn_app (goodIn_of _ (by decide +kernel)) ggX0_before_X0_checkRoomFor
set_option maxRecDepth 20000 in
theorem ggX0_before_X0_placeOf : GoodIn wsX0_before wsX0_placeOf := goodIn_r _ [23, 1, 24, 35, 36, 37, 38] (by decide +kernel) (by decide +kernel)
set_option maxRecDepth 20000 in
theorem gX0_before_X0_placeOf : GoodIn wsX0_before (wsV RX0 52 RX0 yX0_placeOf wsX0_placeOf) := goodIn_app (goodIn_of _ (by decide +kernel)) ggX0_before_X0_placeOf
set_option maxRecDepth 20000 in
theorem ggX0_before_X0_putAt : GoodIn wsX0_before wsX0_putAt := goodIn_r _ [28, 24, 1, 29, 30, 31, 32, 33, 34, 35, 36, 37, 38] (by decide +kernel) (by decide +kernel)
set_option maxRecDepth 20000 in
theorem gX0_before_X0_putAt : GoodIn wsX0_before (wsV RX0 45 RX0 yX0_putAt wsX0_putAt) := goodIn_app (goodIn_of _ (by decide +kernel)) ggX0_before_X0_putAt
theorem dX0_before_0 : decode cX0_before 0 = .ok (.iload_n 2, 1) := by decide +kernel
theorem dX0_before_1 : decode cX0_before 1 = .ok (.iload_n 3, 1) := by decide +kernel
theorem dX0_before_2 : decode cX0_before 2 = .ok (.invokestatic 30, 3) := by decide +kernel
theorem dX0_before_5 : decode cX0_before 5 = .ok (.aload_n 0, 1) := by decide +kernel
theorem dX0_before_6 : decode cX0_before 6 = .ok (.iload_n 1, 1) := by decide +kernel
theorem dX0_before_7 : decode cX0_before 7 = .ok (.invokevirtual 49, 3) := by decide +kernel
theorem dX0_before_10 : decode cX0_before 10 = .ok (.aload_n 0, 1) := by decide +kernel
theorem dX0_before_11 : decode cX0_before 11 = .ok (.iconst 1, 1) := by decide +kernel
theorem dX0_before_12 : decode cX0_before 12 = .ok (.invokevirtual 38, 3) := by decide +kernel
theorem dX0_before_15 : decode cX0_before 15 = .ok (.aload_n 0, 1) := by decide +kernel
theorem dX0_before_16 : decode cX0_before 16 = .ok (.aload_n 0, 1) := by decide +kernel
theorem dX0_before_17 : decode cX0_before 17 = .ok (.iload_n 1, 1) := by decide +kernel
theorem dX0_before_18 : decode cX0_before 18 = .ok (.invokevirtual 52, 3) := by decide +kernel
theorem dX0_before_21 : decode cX0_before 21 = .ok (.iconst 1, 1) := by decide +kernel
theorem dX0_before_22 : decode cX0_before 22 = .ok (.iload_n 2, 1) := by decide +kernel
theorem dX0_before_23 : decode cX0_before 23 = .ok (.iload_n 3, 1) := by decide +kernel
theorem dX0_before_24 : decode cX0_before 24 = .ok (.invokevirtual 45, 3) := by decide +kernel
theorem dX0_before_27 : decode cX0_before 27 = .ok (.aload_n 0, 1) := by decide +kernel
theorem dX0_before_28 : decode cX0_before 28 = .ok (.getfield 19, 3) := by decide +kernel
theorem dX0_before_31 : decode cX0_before 31 = .ok (.iconst 1, 1) := by decide +kernel
theorem dX0_before_32 : decode cX0_before 32 = .ok (.isub, 1) := by decide +kernel
theorem dX0_before_33 : decode cX0_before 33 = .ok (.ireturn, 1) := by decide +kernel
set_option maxRecDepth 20000 in
theorem ggX0_weigh_X0_checkWeights : GoodIn wsX0_weigh wsX0_checkWeights := goodIn_ca (goodIn_r _ [6, 7, 8] (by decide +kernel) (by decide +kernel)) (goodIn_sub (fun _ h => List.mem_cons_of_mem _ (List.mem_append_left _ (List.mem_append_right _ h))) (by decide +kernel))
set_option maxRecDepth 20000 in
theorem gX0_weigh_X0_checkWeights : GoodIn wsX0_weigh (va_wsS RX0 30 yX0_checkWeights wsX0_checkWeights) := goodIn_app (goodIn_of _ (by decide +kernel)) ggX0_weigh_X0_checkWeights
set_option maxRecDepth 20000 in
theorem ggX0_weigh_X0_checkEntry : GoodIn wsX0_weigh wsX0_checkEntry := goodIn_ca (goodIn_r _ [12, 13, 14, 15, 16, 17, 18, 19] (by decide +kernel) (by decide +kernel)) (goodIn_sub (fun _ h => List.mem_cons_of_mem _ (List.mem_append_right _ h)) (by decide +kernel))
set_option maxRecDepth 20000 in
theorem gX0_weigh_X0_checkEntry : GoodIn wsX0_weigh (wsV RX0 49 RX0 yX0_checkEntry wsX0_checkEntry) := goodIn_app (goodIn_of _ (by decide +kernel)) ggX0_weigh_X0_checkEntry
theorem dX0_weigh_0 : decode cX0_weigh 0 = .ok (.iload_n 2, 1) := by decide +kernel
theorem dX0_weigh_1 : decode cX0_weigh 1 = .ok (.iload_n 3, 1) := by decide +kernel
theorem dX0_weigh_2 : decode cX0_weigh 2 = .ok (.invokestatic 30, 3) := by decide +kernel
theorem dX0_weigh_5 : decode cX0_weigh 5 = .ok (.aload_n 0, 1) := by decide +kernel
theorem dX0_weigh_6 : decode cX0_weigh 6 = .ok (.iload_n 1, 1) := by decide +kernel
theorem dX0_weigh_7 : decode cX0_weigh 7 = .ok (.invokevirtual 49, 3) := by decide +kernel
theorem dX0_weigh_10 : decode cX0_weigh 10 = .ok (.aload_n 0, 1) := by decide +kernel
theorem dX0_weigh_11 : decode cX0_weigh 11 = .ok (.getfield 13, 3) := by decide +kernel
theorem dX0_weigh_14 : decode cX0_weigh 14 = .ok (.iload_n 1, 1) := by decide +kernel
theorem dX0_weigh_15 : decode cX0_weigh 15 = .ok (.iaload, 1) := by decide +kernel
theorem dX0_weigh_16 : decode cX0_weigh 16 = .ok (.istore 4, 2) := by decide +kernel
theorem dX0_weigh_18 : decode cX0_weigh 18 = .ok (.aload_n 0, 1) := by decide +kernel
theorem dX0_weigh_19 : decode cX0_weigh 19 = .ok (.getfield 13, 3) := by decide +kernel
theorem dX0_weigh_22 : decode cX0_weigh 22 = .ok (.iload_n 1, 1) := by decide +kernel
theorem dX0_weigh_23 : decode cX0_weigh 23 = .ok (.iload_n 2, 1) := by decide +kernel
theorem dX0_weigh_24 : decode cX0_weigh 24 = .ok (.iastore, 1) := by decide +kernel
theorem dX0_weigh_25 : decode cX0_weigh 25 = .ok (.aload_n 0, 1) := by decide +kernel
theorem dX0_weigh_26 : decode cX0_weigh 26 = .ok (.getfield 16, 3) := by decide +kernel
theorem dX0_weigh_29 : decode cX0_weigh 29 = .ok (.iload_n 1, 1) := by decide +kernel
theorem dX0_weigh_30 : decode cX0_weigh 30 = .ok (.iload_n 3, 1) := by decide +kernel
theorem dX0_weigh_31 : decode cX0_weigh 31 = .ok (.iastore, 1) := by decide +kernel
theorem dX0_weigh_32 : decode cX0_weigh 32 = .ok (.iload 4, 2) := by decide +kernel
theorem dX0_weigh_34 : decode cX0_weigh 34 = .ok (.ireturn, 1) := by decide +kernel
theorem dX0_find_0 : decode cX0_find 0 = .ok (.iload_n 1, 1) := by decide +kernel
theorem dX0_find_1 : decode cX0_find 1 = .ok (.ifCond .ge 13, 3) := by decide +kernel
theorem dX0_find_4 : decode cX0_find 4 = .ok (.new 55, 3) := by decide +kernel
theorem dX0_find_7 : decode cX0_find 7 = .ok (.dup, 1) := by decide +kernel
theorem dX0_find_8 : decode cX0_find 8 = .ok (.ldc 57, 2) := by decide +kernel
theorem dX0_find_10 : decode cX0_find 10 = .ok (.invokespecial 59, 3) := by decide +kernel
theorem dX0_find_13 : decode cX0_find 13 = .ok (.athrow, 1) := by decide +kernel
theorem dX0_find_14 : decode cX0_find 14 = .ok (.iconst 0, 1) := by decide +kernel
theorem dX0_find_15 : decode cX0_find 15 = .ok (.istore_n 2, 1) := by decide +kernel
theorem dX0_find_16 : decode cX0_find 16 = .ok (.iconst 0, 1) := by decide +kernel
theorem dX0_find_17 : decode cX0_find 17 = .ok (.istore_n 3, 1) := by decide +kernel
theorem dX0_find_18 : decode cX0_find 18 = .ok (.iload_n 3, 1) := by decide +kernel
theorem dX0_find_19 : decode cX0_find 19 = .ok (.aload_n 0, 1) := by decide +kernel
theorem dX0_find_20 : decode cX0_find 20 = .ok (.getfield 19, 3) := by decide +kernel
theorem dX0_find_23 : decode cX0_find 23 = .ok (.if_icmp .ge 35, 3) := by decide +kernel
theorem dX0_find_26 : decode cX0_find 26 = .ok (.iload_n 2, 1) := by decide +kernel
theorem dX0_find_27 : decode cX0_find 27 = .ok (.aload_n 0, 1) := by decide +kernel
theorem dX0_find_28 : decode cX0_find 28 = .ok (.getfield 13, 3) := by decide +kernel
theorem dX0_find_31 : decode cX0_find 31 = .ok (.aload_n 0, 1) := by decide +kernel
theorem dX0_find_32 : decode cX0_find 32 = .ok (.getfield 9, 3) := by decide +kernel
theorem dX0_find_35 : decode cX0_find 35 = .ok (.iload_n 3, 1) := by decide +kernel
theorem dX0_find_36 : decode cX0_find 36 = .ok (.iaload, 1) := by decide +kernel
theorem dX0_find_37 : decode cX0_find 37 = .ok (.iaload, 1) := by decide +kernel
theorem dX0_find_38 : decode cX0_find 38 = .ok (.iadd, 1) := by decide +kernel
theorem dX0_find_39 : decode cX0_find 39 = .ok (.istore_n 2, 1) := by decide +kernel
theorem dX0_find_40 : decode cX0_find 40 = .ok (.iload_n 2, 1) := by decide +kernel
theorem dX0_find_41 : decode cX0_find 41 = .ok (.iload_n 1, 1) := by decide +kernel
theorem dX0_find_42 : decode cX0_find 42 = .ok (.if_icmp .le 10, 3) := by decide +kernel
theorem dX0_find_45 : decode cX0_find 45 = .ok (.aload_n 0, 1) := by decide +kernel
theorem dX0_find_46 : decode cX0_find 46 = .ok (.getfield 9, 3) := by decide +kernel
theorem dX0_find_49 : decode cX0_find 49 = .ok (.iload_n 3, 1) := by decide +kernel
theorem dX0_find_50 : decode cX0_find 50 = .ok (.iaload, 1) := by decide +kernel
theorem dX0_find_51 : decode cX0_find 51 = .ok (.ireturn, 1) := by decide +kernel
theorem dX0_find_52 : decode cX0_find 52 = .ok (.iinc 3 1, 3) := by decide +kernel
theorem dX0_find_55 : decode cX0_find 55 = .ok (.goto (-37), 3) := by decide +kernel
theorem dX0_find_58 : decode cX0_find 58 = .ok (.new 55, 3) := by decide +kernel
theorem dX0_find_61 : decode cX0_find 61 = .ok (.dup, 1) := by decide +kernel
theorem dX0_find_62 : decode cX0_find 62 = .ok (.ldc 60, 2) := by decide +kernel
theorem dX0_find_64 : decode cX0_find 64 = .ok (.invokespecial 59, 3) := by decide +kernel
theorem dX0_find_67 : decode cX0_find 67 = .ok (.athrow, 1) := by decide +kernel
set_option maxRecDepth 20000 in
theorem ggX0_sum_X0_checkEntryOrNone : GoodIn wsX0_sum wsX0_checkEntryOrNone := goodIn_ca (goodIn_r _ [10, 11, 12, 13, 9, 14, 15, 16, 3, 26, 27, 28, 29] (by decide +kernel) (by decide +kernel)) (goodIn_sub (fun _ h => List.mem_cons_of_mem _ (List.mem_append_right _ h)) (by decide +kernel))
set_option maxRecDepth 20000 in
theorem gX0_sum_X0_checkEntryOrNone : GoodIn wsX0_sum (wsV RX0 34 RX0 yX0_checkEntryOrNone wsX0_checkEntryOrNone) := goodIn_app (goodIn_of _ (by decide +kernel)) ggX0_sum_X0_checkEntryOrNone
set_option maxRecDepth 20000 in
theorem ggX0_sum_X0_placeOf : GoodIn wsX0_sum wsX0_placeOf := goodIn_r _ [20, 3, 21, 26, 27, 28, 29] (by decide +kernel) (by decide +kernel)
set_option maxRecDepth 20000 in
theorem gX0_sum_X0_placeOf : GoodIn wsX0_sum (wsV RX0 52 RX0 yX0_placeOf wsX0_placeOf) := goodIn_app (goodIn_of _ (by decide +kernel)) ggX0_sum_X0_placeOf
set_option maxRecDepth 20000 in
theorem ggX0_sum_X0_sumInFrontOf : GoodIn wsX0_sum wsX0_sumInFrontOf := goodIn_r _ [25, 21, 26, 27, 28, 29] (by decide +kernel) (by decide +kernel)
set_option maxRecDepth 20000 in
theorem gX0_sum_X0_sumInFrontOf : GoodIn wsX0_sum (wsV RX0 64 RX0 yX0_sumInFrontOf wsX0_sumInFrontOf) := goodIn_app (goodIn_of _ (by decide +kernel)) ggX0_sum_X0_sumInFrontOf
theorem dX0_sum_0 : decode cX0_sum 0 = .ok (.iload_n 2, 1) := by decide +kernel
theorem dX0_sum_1 : decode cX0_sum 1 = .ok (.ifCond .eq 18, 3) := by decide +kernel
theorem dX0_sum_4 : decode cX0_sum 4 = .ok (.iload_n 2, 1) := by decide +kernel
theorem dX0_sum_5 : decode cX0_sum 5 = .ok (.iconst 1, 1) := by decide +kernel
theorem dX0_sum_6 : decode cX0_sum 6 = .ok (.if_icmp .eq 13, 3) := by decide +kernel
theorem dX0_sum_9 : decode cX0_sum 9 = .ok (.new 23, 3) := by decide +kernel
theorem dX0_sum_12 : decode cX0_sum 12 = .ok (.dup, 1) := by decide +kernel
theorem dX0_sum_13 : decode cX0_sum 13 = .ok (.ldc 62, 2) := by decide +kernel
theorem dX0_sum_15 : decode cX0_sum 15 = .ok (.invokespecial 27, 3) := by decide +kernel
theorem dX0_sum_18 : decode cX0_sum 18 = .ok (.athrow, 1) := by decide +kernel
theorem dX0_sum_19 : decode cX0_sum 19 = .ok (.aload_n 0, 1) := by decide +kernel
theorem dX0_sum_20 : decode cX0_sum 20 = .ok (.iload_n 1, 1) := by decide +kernel
theorem dX0_sum_21 : decode cX0_sum 21 = .ok (.invokevirtual 34, 3) := by decide +kernel
theorem dX0_sum_24 : decode cX0_sum 24 = .ok (.iload_n 1, 1) := by decide +kernel
theorem dX0_sum_25 : decode cX0_sum 25 = .ok (.iconst (-1), 1) := by decide +kernel
theorem dX0_sum_26 : decode cX0_sum 26 = .ok (.if_icmp .ne 10, 3) := by decide +kernel
theorem dX0_sum_29 : decode cX0_sum 29 = .ok (.aload_n 0, 1) := by decide +kernel
theorem dX0_sum_30 : decode cX0_sum 30 = .ok (.getfield 19, 3) := by decide +kernel
theorem dX0_sum_33 : decode cX0_sum 33 = .ok (.goto 8, 3) := by decide +kernel
theorem dX0_sum_36 : decode cX0_sum 36 = .ok (.aload_n 0, 1) := by decide +kernel
theorem dX0_sum_37 : decode cX0_sum 37 = .ok (.iload_n 1, 1) := by decide +kernel
theorem dX0_sum_38 : decode cX0_sum 38 = .ok (.invokevirtual 52, 3) := by decide +kernel
theorem dX0_sum_41 : decode cX0_sum 41 = .ok (.istore_n 3, 1) := by decide +kernel
theorem dX0_sum_42 : decode cX0_sum 42 = .ok (.aload_n 0, 1) := by decide +kernel
theorem dX0_sum_43 : decode cX0_sum 43 = .ok (.iload_n 3, 1) := by decide +kernel
theorem dX0_sum_44 : decode cX0_sum 44 = .ok (.iload_n 2, 1) := by decide +kernel
theorem dX0_sum_45 : decode cX0_sum 45 = .ok (.ifCond .ne 10, 3) := by decide +kernel
theorem dX0_sum_48 : decode cX0_sum 48 = .ok (.aload_n 0, 1) := by decide +kernel
theorem dX0_sum_49 : decode cX0_sum 49 = .ok (.getfield 13, 3) := by decide +kernel
theorem dX0_sum_52 : decode cX0_sum 52 = .ok (.goto 7, 3) := by decide +kernel
theorem dX0_sum_55 : decode cX0_sum 55 = .ok (.aload_n 0, 1) := by decide +kernel
theorem dX0_sum_56 : decode cX0_sum 56 = .ok (.getfield 16, 3) := by decide +kernel
theorem dX0_sum_59 : decode cX0_sum 59 = .ok (.invokevirtual 64, 3) := by decide +kernel
theorem dX0_sum_62 : decode cX0_sum 62 = .ok (.ireturn, 1) := by decide +kernel
set_option maxRecDepth 20000 in
theorem ggX0_next_X0_checkEntryOrNone : GoodIn wsX0_next wsX0_checkEntryOrNone := goodIn_ca (goodIn_r _ [9, 10, 11, 12, 8, 13, 1, 2, 3, 22, 23, 24, 25] (by decide +kernel) (by decide +kernel)) (goodIn_sub (fun _ h => List.mem_cons_of_mem _ (List.mem_append_right _ h)) (by decide +kernel))
set_option maxRecDepth 20000 in
theorem gX0_next_X0_checkEntryOrNone : GoodIn wsX0_next (wsV RX0 34 RX0 yX0_checkEntryOrNone wsX0_checkEntryOrNone) := goodIn_app (goodIn_of _ (by decide +kernel)) ggX0_next_X0_checkEntryOrNone
set_option maxRecDepth 20000 in
theorem ggX0_next_X0_placeBehind : GoodIn wsX0_next wsX0_placeBehind := goodIn_r _ [17, 18, 19, 20, 8, 21, 3, 4, 22, 23, 24, 25] (by decide +kernel) (by decide +kernel)
set_option maxRecDepth 20000 in
theorem gX0_next_X0_placeBehind : GoodIn wsX0_next (wsV RX0 41 RX0 yX0_placeBehind wsX0_placeBehind) := goodIn_app (goodIn_of _ (by decide +kernel)) ggX0_next_X0_placeBehind
theorem dX0_next_0 : decode cX0_next 0 = .ok (.aload_n 0, 1) := by decide +kernel
theorem dX0_next_1 : decode cX0_next 1 = .ok (.iload_n 1, 1) := by decide +kernel
theorem dX0_next_2 : decode cX0_next 2 = .ok (.invokevirtual 34, 3) := by decide +kernel
theorem dX0_next_5 : decode cX0_next 5 = .ok (.aload_n 0, 1) := by decide +kernel
theorem dX0_next_6 : decode cX0_next 6 = .ok (.iload_n 1, 1) := by decide +kernel
theorem dX0_next_7 : decode cX0_next 7 = .ok (.invokevirtual 41, 3) := by decide +kernel
theorem dX0_next_10 : decode cX0_next 10 = .ok (.istore_n 2, 1) := by decide +kernel
theorem dX0_next_11 : decode cX0_next 11 = .ok (.iload_n 2, 1) := by decide +kernel
theorem dX0_next_12 : decode cX0_next 12 = .ok (.aload_n 0, 1) := by decide +kernel
theorem dX0_next_13 : decode cX0_next 13 = .ok (.getfield 19, 3) := by decide +kernel
theorem dX0_next_16 : decode cX0_next 16 = .ok (.if_icmp .lt 13, 3) := by decide +kernel
theorem dX0_next_19 : decode cX0_next 19 = .ok (.new 55, 3) := by decide +kernel
theorem dX0_next_22 : decode cX0_next 22 = .ok (.dup, 1) := by decide +kernel
theorem dX0_next_23 : decode cX0_next 23 = .ok (.ldc 68, 2) := by decide +kernel
theorem dX0_next_25 : decode cX0_next 25 = .ok (.invokespecial 59, 3) := by decide +kernel
theorem dX0_next_28 : decode cX0_next 28 = .ok (.athrow, 1) := by decide +kernel
theorem dX0_next_29 : decode cX0_next 29 = .ok (.aload_n 0, 1) := by decide +kernel
theorem dX0_next_30 : decode cX0_next 30 = .ok (.getfield 9, 3) := by decide +kernel
theorem dX0_next_33 : decode cX0_next 33 = .ok (.iload_n 2, 1) := by decide +kernel
theorem dX0_next_34 : decode cX0_next 34 = .ok (.iaload, 1) := by decide +kernel
theorem dX0_next_35 : decode cX0_next 35 = .ok (.ireturn, 1) := by decide +kernel
set_option maxRecDepth 20000 in
theorem ggX0_place_X0_checkEntry : GoodIn wsX0_place wsX0_checkEntry := goodIn_ca (goodIn_r _ [5, 6, 7, 8, 14, 15, 16, 17] (by decide +kernel) (by decide +kernel)) (goodIn_sub (fun _ h => List.mem_cons_of_mem _ (List.mem_append_right _ h)) (by decide +kernel))
set_option maxRecDepth 20000 in
theorem gX0_place_X0_checkEntry : GoodIn wsX0_place (wsV RX0 49 RX0 yX0_checkEntry wsX0_checkEntry) := goodIn_app (goodIn_of _ (by decide +kernel)) ggX0_place_X0_checkEntry
set_option maxRecDepth 20000 in
theorem ggX0_place_X0_placeOf : GoodIn wsX0_place wsX0_placeOf := goodIn_r _ [12, 8, 13, 14, 15, 16, 17] (by decide +kernel) (by decide +kernel)
set_option maxRecDepth 20000 in
theorem gX0_place_X0_placeOf : GoodIn wsX0_place (wsV RX0 52 RX0 yX0_placeOf wsX0_placeOf) := goodIn_app (goodIn_of _ (by decide +kernel)) ggX0_place_X0_placeOf
theorem dX0_place_0 : decode cX0_place 0 = .ok (.aload_n 0, 1) := by decide +kernel
theorem dX0_place_1 : decode cX0_place 1 = .ok (.iload_n 1, 1) := by decide +kernel
theorem dX0_place_2 : decode cX0_place 2 = .ok (.invokevirtual 49, 3) := by decide +kernel
theorem dX0_place_5 : decode cX0_place 5 = .ok (.aload_n 0, 1) := by decide +kernel
theorem dX0_place_6 : decode cX0_place 6 = .ok (.iload_n 1, 1) := by decide +kernel
theorem dX0_place_7 : decode cX0_place 7 = .ok (.invokevirtual 52, 3) := by decide +kernel
theorem dX0_place_10 : decode cX0_place 10 = .ok (.ireturn, 1) := by decide +kernel
theorem dX0_entries_0 : decode cX0_entries 0 = .ok (.aload_n 0, 1) := by decide +kernel
theorem dX0_entries_1 : decode cX0_entries 1 = .ok (.getfield 19, 3) := by decide +kernel
theorem dX0_entries_4 : decode cX0_entries 4 = .ok (.ireturn, 1) := by decide +kernel
theorem dX0_checkWeights_0 : decode cX0_checkWeights 0 = .ok (.iload_n 0, 1) := by decide +kernel
theorem dX0_checkWeights_1 : decode cX0_checkWeights 1 = .ok (.ifCond .lt 21, 3) := by decide +kernel
theorem dX0_checkWeights_4 : decode cX0_checkWeights 4 = .ok (.iload_n 0, 1) := by decide +kernel
theorem dX0_checkWeights_5 : decode cX0_checkWeights 5 = .ok (.sipush 1000, 3) := by decide +kernel
theorem dX0_checkWeights_8 : decode cX0_checkWeights 8 = .ok (.if_icmp .gt 14, 3) := by decide +kernel
theorem dX0_checkWeights_11 : decode cX0_checkWeights 11 = .ok (.iload_n 1, 1) := by decide +kernel
theorem dX0_checkWeights_12 : decode cX0_checkWeights 12 = .ok (.ifCond .lt 10, 3) := by decide +kernel
theorem dX0_checkWeights_15 : decode cX0_checkWeights 15 = .ok (.iload_n 1, 1) := by decide +kernel
theorem dX0_checkWeights_16 : decode cX0_checkWeights 16 = .ok (.sipush 1000, 3) := by decide +kernel
theorem dX0_checkWeights_19 : decode cX0_checkWeights 19 = .ok (.if_icmp .le 13, 3) := by decide +kernel
theorem dX0_checkWeights_22 : decode cX0_checkWeights 22 = .ok (.new 23, 3) := by decide +kernel
theorem dX0_checkWeights_25 : decode cX0_checkWeights 25 = .ok (.dup, 1) := by decide +kernel
theorem dX0_checkWeights_26 : decode cX0_checkWeights 26 = .ok (.ldc 70, 2) := by decide +kernel
theorem dX0_checkWeights_28 : decode cX0_checkWeights 28 = .ok (.invokespecial 27, 3) := by decide +kernel
theorem dX0_checkWeights_31 : decode cX0_checkWeights 31 = .ok (.athrow, 1) := by decide +kernel
theorem dX0_checkWeights_32 : decode cX0_checkWeights 32 = .ok (.return_, 1) := by decide +kernel
theorem dX0_checkEntry_0 : decode cX0_checkEntry 0 = .ok (.iload_n 1, 1) := by decide +kernel
theorem dX0_checkEntry_1 : decode cX0_checkEntry 1 = .ok (.ifCond .lt 11, 3) := by decide +kernel
theorem dX0_checkEntry_4 : decode cX0_checkEntry 4 = .ok (.iload_n 1, 1) := by decide +kernel
theorem dX0_checkEntry_5 : decode cX0_checkEntry 5 = .ok (.aload_n 0, 1) := by decide +kernel
theorem dX0_checkEntry_6 : decode cX0_checkEntry 6 = .ok (.getfield 19, 3) := by decide +kernel
theorem dX0_checkEntry_9 : decode cX0_checkEntry 9 = .ok (.if_icmp .lt 13, 3) := by decide +kernel
theorem dX0_checkEntry_12 : decode cX0_checkEntry 12 = .ok (.new 55, 3) := by decide +kernel
theorem dX0_checkEntry_15 : decode cX0_checkEntry 15 = .ok (.dup, 1) := by decide +kernel
theorem dX0_checkEntry_16 : decode cX0_checkEntry 16 = .ok (.ldc 72, 2) := by decide +kernel
theorem dX0_checkEntry_18 : decode cX0_checkEntry 18 = .ok (.invokespecial 59, 3) := by decide +kernel
theorem dX0_checkEntry_21 : decode cX0_checkEntry 21 = .ok (.athrow, 1) := by decide +kernel
theorem dX0_checkEntry_22 : decode cX0_checkEntry 22 = .ok (.return_, 1) := by decide +kernel
set_option maxRecDepth 20000 in
theorem ggX0_checkEntryOrNone_X0_checkEntry : GoodIn wsX0_checkEntryOrNone wsX0_checkEntry := goodIn_ca (goodIn_r _ [5, 6, 7, 8, 9, 10, 11, 12] (by decide +kernel) (by decide +kernel)) (goodIn_sub (fun _ h => List.mem_cons_of_mem _ (List.mem_append_right _ h)) (by decide +kernel))
set_option maxRecDepth 20000 in
theorem gX0_checkEntryOrNone_X0_checkEntry : GoodIn wsX0_checkEntryOrNone (wsV RX0 49 RX0 yX0_checkEntry wsX0_checkEntry) := goodIn_app (goodIn_of _ (by decide +kernel)) ggX0_checkEntryOrNone_X0_checkEntry
theorem dX0_checkEntryOrNone_0 : decode cX0_checkEntryOrNone 0 = .ok (.iload_n 1, 1) := by decide +kernel
theorem dX0_checkEntryOrNone_1 : decode cX0_checkEntryOrNone 1 = .ok (.iconst (-1), 1) := by decide +kernel
theorem dX0_checkEntryOrNone_2 : decode cX0_checkEntryOrNone 2 = .ok (.if_icmp .eq 8, 3) := by decide +kernel
theorem dX0_checkEntryOrNone_5 : decode cX0_checkEntryOrNone 5 = .ok (.aload_n 0, 1) := by decide +kernel
theorem dX0_checkEntryOrNone_6 : decode cX0_checkEntryOrNone 6 = .ok (.iload_n 1, 1) := by decide +kernel
theorem dX0_checkEntryOrNone_7 : decode cX0_checkEntryOrNone 7 = .ok (.invokevirtual 49, 3) := by decide +kernel
theorem dX0_checkEntryOrNone_10 : decode cX0_checkEntryOrNone 10 = .ok (.return_, 1) := by decide +kernel
theorem dX0_checkRoomFor_0 : decode cX0_checkRoomFor 0 = .ok (.iload_n 1, 1) := by decide +kernel
theorem dX0_checkRoomFor_1 : decode cX0_checkRoomFor 1 = .ok (.sipush 4000, 3) := by decide +kernel
theorem dX0_checkRoomFor_4 : decode cX0_checkRoomFor 4 = .ok (.aload_n 0, 1) := by decide +kernel
theorem dX0_checkRoomFor_5 : decode cX0_checkRoomFor 5 = .ok (.getfield 19, 3) := by decide +kernel
theorem dX0_checkRoomFor_8 : decode cX0_checkRoomFor 8 = .ok (.isub, 1) := by decide +kernel
theorem dX0_checkRoomFor_9 : decode cX0_checkRoomFor 9 = .ok (.if_icmp .le 13, 3) := by decide +kernel
theorem dX0_checkRoomFor_12 : decode cX0_checkRoomFor 12 = .ok (.new 74, 3) := by decide +kernel
theorem dX0_checkRoomFor_15 : decode cX0_checkRoomFor 15 = .ok (.dup, 1) := by decide +kernel
theorem dX0_checkRoomFor_16 : decode cX0_checkRoomFor 16 = .ok (.ldc 76, 2) := by decide +kernel
theorem dX0_checkRoomFor_18 : decode cX0_checkRoomFor 18 = .ok (.invokespecial 78, 3) := by decide +kernel
theorem dX0_checkRoomFor_21 : decode cX0_checkRoomFor 21 = .ok (.athrow, 1) := by decide +kernel
theorem dX0_checkRoomFor_22 : decode cX0_checkRoomFor 22 = .ok (.return_, 1) := by decide +kernel
theorem dX0_placeOf_0 : decode cX0_placeOf 0 = .ok (.iconst 0, 1) := by decide +kernel
theorem dX0_placeOf_1 : decode cX0_placeOf 1 = .ok (.istore_n 2, 1) := by decide +kernel
theorem dX0_placeOf_2 : decode cX0_placeOf 2 = .ok (.iload_n 2, 1) := by decide +kernel
theorem dX0_placeOf_3 : decode cX0_placeOf 3 = .ok (.aload_n 0, 1) := by decide +kernel
theorem dX0_placeOf_4 : decode cX0_placeOf 4 = .ok (.getfield 19, 3) := by decide +kernel
theorem dX0_placeOf_7 : decode cX0_placeOf 7 = .ok (.if_icmp .ge 19, 3) := by decide +kernel
theorem dX0_placeOf_10 : decode cX0_placeOf 10 = .ok (.aload_n 0, 1) := by decide +kernel
theorem dX0_placeOf_11 : decode cX0_placeOf 11 = .ok (.getfield 9, 3) := by decide +kernel
theorem dX0_placeOf_14 : decode cX0_placeOf 14 = .ok (.iload_n 2, 1) := by decide +kernel
theorem dX0_placeOf_15 : decode cX0_placeOf 15 = .ok (.iaload, 1) := by decide +kernel
theorem dX0_placeOf_16 : decode cX0_placeOf 16 = .ok (.iload_n 1, 1) := by decide +kernel
theorem dX0_placeOf_17 : decode cX0_placeOf 17 = .ok (.if_icmp .eq 9, 3) := by decide +kernel
theorem dX0_placeOf_20 : decode cX0_placeOf 20 = .ok (.iinc 2 1, 3) := by decide +kernel
theorem dX0_placeOf_23 : decode cX0_placeOf 23 = .ok (.goto (-21), 3) := by decide +kernel
theorem dX0_placeOf_26 : decode cX0_placeOf 26 = .ok (.iload_n 2, 1) := by decide +kernel
theorem dX0_placeOf_27 : decode cX0_placeOf 27 = .ok (.ireturn, 1) := by decide +kernel
set_option maxRecDepth 20000 in
theorem ggX0_placeBehind_X0_placeOf : GoodIn wsX0_placeBehind wsX0_placeOf := goodIn_r _ [5, 6, 7, 8, 9, 10, 11] (by decide +kernel) (by decide +kernel)
set_option maxRecDepth 20000 in
theorem gX0_placeBehind_X0_placeOf : GoodIn wsX0_placeBehind (wsV RX0 52 RX0 yX0_placeOf wsX0_placeOf) := goodIn_app (goodIn_of _ (by decide +kernel)) ggX0_placeBehind_X0_placeOf
theorem dX0_placeBehind_0 : decode cX0_placeBehind 0 = .ok (.iload_n 1, 1) := by decide +kernel
theorem dX0_placeBehind_1 : decode cX0_placeBehind 1 = .ok (.iconst (-1), 1) := by decide +kernel
theorem dX0_placeBehind_2 : decode cX0_placeBehind 2 = .ok (.if_icmp .ne 7, 3) := by decide +kernel
theorem dX0_placeBehind_5 : decode cX0_placeBehind 5 = .ok (.iconst 0, 1) := by decide +kernel
theorem dX0_placeBehind_6 : decode cX0_placeBehind 6 = .ok (.goto 10, 3) := by decide +kernel
theorem dX0_placeBehind_9 : decode cX0_placeBehind 9 = .ok (.aload_n 0, 1) := by decide +kernel
theorem dX0_placeBehind_10 : decode cX0_placeBehind 10 = .ok (.iload_n 1, 1) := by decide +kernel
theorem dX0_placeBehind_11 : decode cX0_placeBehind 11 = .ok (.invokevirtual 52, 3) := by decide +kernel
theorem dX0_placeBehind_14 : decode cX0_placeBehind 14 = .ok (.iconst 1, 1) := by decide +kernel
theorem dX0_placeBehind_15 : decode cX0_placeBehind 15 = .ok (.iadd, 1) := by decide +kernel
theorem dX0_placeBehind_16 : decode cX0_placeBehind 16 = .ok (.ireturn, 1) := by decide +kernel
theorem dX0_sumInFrontOf_0 : decode cX0_sumInFrontOf 0 = .ok (.iconst 0, 1) := by decide +kernel
theorem dX0_sumInFrontOf_1 : decode cX0_sumInFrontOf 1 = .ok (.istore_n 3, 1) := by decide +kernel
theorem dX0_sumInFrontOf_2 : decode cX0_sumInFrontOf 2 = .ok (.iconst 0, 1) := by decide +kernel
theorem dX0_sumInFrontOf_3 : decode cX0_sumInFrontOf 3 = .ok (.istore 4, 2) := by decide +kernel
theorem dX0_sumInFrontOf_5 : decode cX0_sumInFrontOf 5 = .ok (.iload 4, 2) := by decide +kernel
theorem dX0_sumInFrontOf_7 : decode cX0_sumInFrontOf 7 = .ok (.iload_n 1, 1) := by decide +kernel
theorem dX0_sumInFrontOf_8 : decode cX0_sumInFrontOf 8 = .ok (.if_icmp .ge 21, 3) := by decide +kernel
theorem dX0_sumInFrontOf_11 : decode cX0_sumInFrontOf 11 = .ok (.iload_n 3, 1) := by decide +kernel
theorem dX0_sumInFrontOf_12 : decode cX0_sumInFrontOf 12 = .ok (.aload_n 2, 1) := by decide +kernel
theorem dX0_sumInFrontOf_13 : decode cX0_sumInFrontOf 13 = .ok (.aload_n 0, 1) := by decide +kernel
theorem dX0_sumInFrontOf_14 : decode cX0_sumInFrontOf 14 = .ok (.getfield 9, 3) := by decide +kernel
theorem dX0_sumInFrontOf_17 : decode cX0_sumInFrontOf 17 = .ok (.iload 4, 2) := by decide +kernel
theorem dX0_sumInFrontOf_19 : decode cX0_sumInFrontOf 19 = .ok (.iaload, 1) := by decide +kernel
theorem dX0_sumInFrontOf_20 : decode cX0_sumInFrontOf 20 = .ok (.iaload, 1) := by decide +kernel
theorem dX0_sumInFrontOf_21 : decode cX0_sumInFrontOf 21 = .ok (.iadd, 1) := by decide +kernel
theorem dX0_sumInFrontOf_22 : decode cX0_sumInFrontOf 22 = .ok (.istore_n 3, 1) := by decide +kernel
theorem dX0_sumInFrontOf_23 : decode cX0_sumInFrontOf 23 = .ok (.iinc 4 1, 3) := by decide +kernel
theorem dX0_sumInFrontOf_26 : decode cX0_sumInFrontOf 26 = .ok (.goto (-21), 3) := by decide +kernel
theorem dX0_sumInFrontOf_29 : decode cX0_sumInFrontOf 29 = .ok (.iload_n 3, 1) := by decide +kernel
theorem dX0_sumInFrontOf_30 : decode cX0_sumInFrontOf 30 = .ok (.ireturn, 1) := by decide +kernel
theorem dX0_putAt_0 : decode cX0_putAt 0 = .ok (.aload_n 0, 1) := by decide +kernel
theorem dX0_putAt_1 : decode cX0_putAt 1 = .ok (.getfield 9, 3) := by decide +kernel
theorem dX0_putAt_4 : decode cX0_putAt 4 = .ok (.iload_n 1, 1) := by decide +kernel
theorem dX0_putAt_5 : decode cX0_putAt 5 = .ok (.aload_n 0, 1) := by decide +kernel
theorem dX0_putAt_6 : decode cX0_putAt 6 = .ok (.getfield 9, 3) := by decide +kernel
theorem dX0_putAt_9 : decode cX0_putAt 9 = .ok (.iload_n 1, 1) := by decide +kernel
theorem dX0_putAt_10 : decode cX0_putAt 10 = .ok (.iload_n 2, 1) := by decide +kernel
theorem dX0_putAt_11 : decode cX0_putAt 11 = .ok (.iadd, 1) := by decide +kernel
theorem dX0_putAt_12 : decode cX0_putAt 12 = .ok (.aload_n 0, 1) := by decide +kernel
theorem dX0_putAt_13 : decode cX0_putAt 13 = .ok (.getfield 19, 3) := by decide +kernel
theorem dX0_putAt_16 : decode cX0_putAt 16 = .ok (.iload_n 1, 1) := by decide +kernel
theorem dX0_putAt_17 : decode cX0_putAt 17 = .ok (.isub, 1) := by decide +kernel
theorem dX0_putAt_18 : decode cX0_putAt 18 = .ok (.invokestatic 79, 3) := by decide +kernel
theorem dX0_putAt_21 : decode cX0_putAt 21 = .ok (.iconst 0, 1) := by decide +kernel
theorem dX0_putAt_22 : decode cX0_putAt 22 = .ok (.istore 5, 2) := by decide +kernel
theorem dX0_putAt_24 : decode cX0_putAt 24 = .ok (.iload 5, 2) := by decide +kernel
theorem dX0_putAt_26 : decode cX0_putAt 26 = .ok (.iload_n 2, 1) := by decide +kernel
theorem dX0_putAt_27 : decode cX0_putAt 27 = .ok (.if_icmp .ge 46, 3) := by decide +kernel
theorem dX0_putAt_30 : decode cX0_putAt 30 = .ok (.aload_n 0, 1) := by decide +kernel
theorem dX0_putAt_31 : decode cX0_putAt 31 = .ok (.getfield 19, 3) := by decide +kernel
theorem dX0_putAt_34 : decode cX0_putAt 34 = .ok (.iload 5, 2) := by decide +kernel
theorem dX0_putAt_36 : decode cX0_putAt 36 = .ok (.iadd, 1) := by decide +kernel
theorem dX0_putAt_37 : decode cX0_putAt 37 = .ok (.istore 6, 2) := by decide +kernel
theorem dX0_putAt_39 : decode cX0_putAt 39 = .ok (.aload_n 0, 1) := by decide +kernel
theorem dX0_putAt_40 : decode cX0_putAt 40 = .ok (.getfield 9, 3) := by decide +kernel
theorem dX0_putAt_43 : decode cX0_putAt 43 = .ok (.iload_n 1, 1) := by decide +kernel
theorem dX0_putAt_44 : decode cX0_putAt 44 = .ok (.iload 5, 2) := by decide +kernel
theorem dX0_putAt_46 : decode cX0_putAt 46 = .ok (.iadd, 1) := by decide +kernel
theorem dX0_putAt_47 : decode cX0_putAt 47 = .ok (.iload 6, 2) := by decide +kernel
theorem dX0_putAt_49 : decode cX0_putAt 49 = .ok (.iastore, 1) := by decide +kernel
theorem dX0_putAt_50 : decode cX0_putAt 50 = .ok (.aload_n 0, 1) := by decide +kernel
theorem dX0_putAt_51 : decode cX0_putAt 51 = .ok (.getfield 13, 3) := by decide +kernel
theorem dX0_putAt_54 : decode cX0_putAt 54 = .ok (.iload 6, 2) := by decide +kernel
theorem dX0_putAt_56 : decode cX0_putAt 56 = .ok (.iload_n 3, 1) := by decide +kernel
theorem dX0_putAt_57 : decode cX0_putAt 57 = .ok (.iastore, 1) := by decide +kernel
theorem dX0_putAt_58 : decode cX0_putAt 58 = .ok (.aload_n 0, 1) := by decide +kernel
theorem dX0_putAt_59 : decode cX0_putAt 59 = .ok (.getfield 16, 3) := by decide +kernel
theorem dX0_putAt_62 : decode cX0_putAt 62 = .ok (.iload 6, 2) := by decide +kernel
theorem dX0_putAt_64 : decode cX0_putAt 64 = .ok (.iload 4, 2) := by decide +kernel
theorem dX0_putAt_66 : decode cX0_putAt 66 = .ok (.iastore, 1) := by decide +kernel
theorem dX0_putAt_67 : decode cX0_putAt 67 = .ok (.iinc 5 1, 3) := by decide +kernel
theorem dX0_putAt_70 : decode cX0_putAt 70 = .ok (.goto (-46), 3) := by decide +kernel
theorem dX0_putAt_73 : decode cX0_putAt 73 = .ok (.aload_n 0, 1) := by decide +kernel
theorem dX0_putAt_74 : decode cX0_putAt 74 = .ok (.dup, 1) := by decide +kernel
theorem dX0_putAt_75 : decode cX0_putAt 75 = .ok (.getfield 19, 3) := by decide +kernel
theorem dX0_putAt_78 : decode cX0_putAt 78 = .ok (.iload_n 2, 1) := by decide +kernel
theorem dX0_putAt_79 : decode cX0_putAt 79 = .ok (.iadd, 1) := by decide +kernel
theorem dX0_putAt_80 : decode cX0_putAt 80 = .ok (.putfield 19, 3) := by decide +kernel
theorem dX0_putAt_83 : decode cX0_putAt 83 = .ok (.return_, 1) := by decide +kernel
theorem dX1_init_0 : decode cX1_init 0 = .ok (.aload_n 0, 1) := by decide +kernel
theorem dX1_init_1 : decode cX1_init 1 = .ok (.invokespecial 1, 3) := by decide +kernel
theorem dX1_init_4 : decode cX1_init 4 = .ok (.aload_n 0, 1) := by decide +kernel
theorem dX1_init_5 : decode cX1_init 5 = .ok (.sipush 4000, 3) := by decide +kernel
theorem dX1_init_8 : decode cX1_init 8 = .ok (.newarray .int, 2) := by decide +kernel
theorem dX1_init_10 : decode cX1_init 10 = .ok (.putfield 9, 3) := by decide +kernel
theorem dX1_init_13 : decode cX1_init 13 = .ok (.aload_n 0, 1) := by decide +kernel
theorem dX1_init_14 : decode cX1_init 14 = .ok (.sipush 4000, 3) := by decide +kernel
theorem dX1_init_17 : decode cX1_init 17 = .ok (.newarray .int, 2) := by decide +kernel
theorem dX1_init_19 : decode cX1_init 19 = .ok (.putfield 13, 3) := by decide +kernel
theorem dX1_init_22 : decode cX1_init 22 = .ok (.aload_n 0, 1) := by decide +kernel
theorem dX1_init_23 : decode cX1_init 23 = .ok (.sipush 4000, 3) := by decide +kernel
theorem dX1_init_26 : decode cX1_init 26 = .ok (.newarray .int, 2) := by decide +kernel
theorem dX1_init_28 : decode cX1_init 28 = .ok (.putfield 16, 3) := by decide +kernel
theorem dX1_init_31 : decode cX1_init 31 = .ok (.return_, 1) := by decide +kernel
set_option maxRecDepth 20000 in
theorem ggL_behind_X0_behind : GoodIn wsL_behind wsX0_behind := goodIn_ca (goodIn_ca (goodIn_ca (goodIn_r _ [8, 9, 10, 11, 12, 13, 7, 14, 15, 16, 17, 18, 19, 20, 21, 22, 23, 24, 25, 26, 27, 28, 29, 30, 31, 32, 33, 34, 35, 36, 37, 38, 39, 40, 41, 42, 43, 44, 45, 46, 47, 48, 49, 50, 51, 52, 53] (by decide +kernel) (by decide +kernel)) (goodIn_sub (fun _ h => List.mem_cons_of_mem _ (List.mem_append_left _ (List.mem_append_left _ (List.mem_append_right _ h)))) (by decide +kernel))) (goodIn_sub (fun _ h => List.mem_cons_of_mem _ (List.mem_append_left _ (List.mem_append_right _ h))) (by decide +kernel))) (goodIn_sub (fun _ h => List.mem_cons_of_mem _ (List.mem_append_right _ h)) (by decide +kernel))
set_option maxRecDepth 20000 in
theorem gL_behind_X0_behind : GoodIn wsL_behind (wsV RL 7 RX0 yX0_behind wsX0_behind) := goodIn_app (goodIn_of _ (by decide +kernel)) ggL_behind_X0_behind
theorem dL_behind_0 : decode cL_behind 0 = .ok (.aload 5, 2) := by decide +kernel
theorem dL_behind_2 : decode cL_behind 2 = .ok (.iconst 0, 1) := by decide +kernel
theorem dL_behind_3 : decode cL_behind 3 = .ok (.aload_n 0, 1) := by decide +kernel
theorem dL_behind_4 : decode cL_behind 4 = .ok (.iload_n 1, 1) := by decide +kernel
theorem dL_behind_5 : decode cL_behind 5 = .ok (.iload_n 2, 1) := by decide +kernel
theorem dL_behind_6 : decode cL_behind 6 = .ok (.iload_n 3, 1) := by decide +kernel
theorem dL_behind_7 : decode cL_behind 7 = .ok (.iload 4, 2) := by decide +kernel
theorem dL_behind_9 : decode cL_behind 9 = .ok (.invokevirtual 7, 3) := by decide +kernel
theorem dL_behind_12 : decode cL_behind 12 = .ok (.i2l, 1) := by decide +kernel
theorem dL_behind_13 : decode cL_behind 13 = .ok (.lastore, 1) := by decide +kernel
theorem dL_behind_14 : decode cL_behind 14 = .ok (.goto 15, 3) := by decide +kernel
theorem dL_behind_17 : decode cL_behind 17 = .ok (.astore 6, 2) := by decide +kernel
theorem dL_behind_19 : decode cL_behind 19 = .ok (.iconst 1, 1) := by decide +kernel
theorem dL_behind_20 : decode cL_behind 20 = .ok (.ireturn, 1) := by decide +kernel
theorem dL_behind_21 : decode cL_behind 21 = .ok (.astore 6, 2) := by decide +kernel
theorem dL_behind_23 : decode cL_behind 23 = .ok (.iconst 2, 1) := by decide +kernel
theorem dL_behind_24 : decode cL_behind 24 = .ok (.ireturn, 1) := by decide +kernel
theorem dL_behind_25 : decode cL_behind 25 = .ok (.astore 6, 2) := by decide +kernel
theorem dL_behind_27 : decode cL_behind 27 = .ok (.iconst 3, 1) := by decide +kernel
theorem dL_behind_28 : decode cL_behind 28 = .ok (.ireturn, 1) := by decide +kernel
theorem dL_behind_29 : decode cL_behind 29 = .ok (.iconst 0, 1) := by decide +kernel
theorem dL_behind_30 : decode cL_behind 30 = .ok (.ireturn, 1) := by decide +kernel
set_option maxRecDepth 20000 in
theorem ggL_before_X0_before : GoodIn wsL_before wsX0_before := goodIn_ca (goodIn_ca (goodIn_ca (goodIn_r _ [8, 9, 10, 11, 7, 12, 13, 14, 15, 16, 17, 18, 19, 20, 21, 22, 23, 24, 25, 26, 27, 28, 29, 30, 31, 32, 33, 34, 35, 36, 37, 38, 39, 40, 41, 42, 43, 44, 45] (by decide +kernel) (by decide +kernel)) (goodIn_sub (fun _ h => List.mem_cons_of_mem _ (List.mem_append_left _ (List.mem_append_left _ (List.mem_append_right _ h)))) (by decide +kernel))) (goodIn_sub (fun _ h => List.mem_cons_of_mem _ (List.mem_append_left _ (List.mem_append_right _ h))) (by decide +kernel))) (goodIn_sub (fun _ h => List.mem_cons_of_mem _ (List.mem_append_right _ h)) (by decide +kernel))
set_option maxRecDepth 20000 in
theorem gL_before_X0_before : GoodIn wsL_before (wsV RL 19 RX0 yX0_before wsX0_before) := goodIn_app (goodIn_of _ (by decide +kernel)) ggL_before_X0_before
theorem dL_before_0 : decode cL_before 0 = .ok (.aload 4, 2) := by decide +kernel
theorem dL_before_2 : decode cL_before 2 = .ok (.iconst 0, 1) := by decide +kernel
theorem dL_before_3 : decode cL_before 3 = .ok (.aload_n 0, 1) := by decide +kernel
theorem dL_before_4 : decode cL_before 4 = .ok (.iload_n 1, 1) := by decide +kernel
theorem dL_before_5 : decode cL_before 5 = .ok (.iload_n 2, 1) := by decide +kernel
theorem dL_before_6 : decode cL_before 6 = .ok (.iload_n 3, 1) := by decide +kernel
theorem dL_before_7 : decode cL_before 7 = .ok (.invokevirtual 19, 3) := by decide +kernel
theorem dL_before_10 : decode cL_before 10 = .ok (.i2l, 1) := by decide +kernel
theorem dL_before_11 : decode cL_before 11 = .ok (.lastore, 1) := by decide +kernel
theorem dL_before_12 : decode cL_before 12 = .ok (.goto 15, 3) := by decide +kernel
theorem dL_before_15 : decode cL_before 15 = .ok (.astore 5, 2) := by decide +kernel
theorem dL_before_17 : decode cL_before 17 = .ok (.iconst 1, 1) := by decide +kernel
theorem dL_before_18 : decode cL_before 18 = .ok (.ireturn, 1) := by decide +kernel
theorem dL_before_19 : decode cL_before 19 = .ok (.astore 5, 2) := by decide +kernel
theorem dL_before_21 : decode cL_before 21 = .ok (.iconst 2, 1) := by decide +kernel
theorem dL_before_22 : decode cL_before 22 = .ok (.ireturn, 1) := by decide +kernel
theorem dL_before_23 : decode cL_before 23 = .ok (.astore 5, 2) := by decide +kernel
theorem dL_before_25 : decode cL_before 25 = .ok (.iconst 3, 1) := by decide +kernel
theorem dL_before_26 : decode cL_before 26 = .ok (.ireturn, 1) := by decide +kernel
theorem dL_before_27 : decode cL_before 27 = .ok (.iconst 0, 1) := by decide +kernel
theorem dL_before_28 : decode cL_before 28 = .ok (.ireturn, 1) := by decide +kernel
set_option maxRecDepth 20000 in
theorem ggL_weigh_X0_weigh : GoodIn wsL_weigh wsX0_weigh := goodIn_ca (goodIn_ca (goodIn_r _ [7, 8, 9, 10, 11, 6, 12, 13, 14, 15, 16, 17, 18, 19, 20, 21, 22, 23, 24, 25] (by decide +kernel) (by decide +kernel)) (goodIn_sub (fun _ h => List.mem_cons_of_mem _ (List.mem_append_left _ (List.mem_append_right _ h))) (by decide +kernel))) (goodIn_sub (fun _ h => List.mem_cons_of_mem _ (List.mem_append_right _ h)) (by decide +kernel))
set_option maxRecDepth 20000 in
theorem gL_weigh_X0_weigh : GoodIn wsL_weigh (wsV RL 23 RX0 yX0_weigh wsX0_weigh) := goodIn_app (goodIn_of _ (by decide +kernel)) ggL_weigh_X0_weigh
theorem dL_weigh_0 : decode cL_weigh 0 = .ok (.aload 4, 2) := by decide +kernel
theorem dL_weigh_2 : decode cL_weigh 2 = .ok (.iconst 0, 1) := by decide +kernel
theorem dL_weigh_3 : decode cL_weigh 3 = .ok (.aload_n 0, 1) := by decide +kernel
theorem dL_weigh_4 : decode cL_weigh 4 = .ok (.iload_n 1, 1) := by decide +kernel
theorem dL_weigh_5 : decode cL_weigh 5 = .ok (.iload_n 2, 1) := by decide +kernel
theorem dL_weigh_6 : decode cL_weigh 6 = .ok (.iload_n 3, 1) := by decide +kernel
theorem dL_weigh_7 : decode cL_weigh 7 = .ok (.invokevirtual 23, 3) := by decide +kernel
theorem dL_weigh_10 : decode cL_weigh 10 = .ok (.i2l, 1) := by decide +kernel
theorem dL_weigh_11 : decode cL_weigh 11 = .ok (.lastore, 1) := by decide +kernel
theorem dL_weigh_12 : decode cL_weigh 12 = .ok (.goto 11, 3) := by decide +kernel
theorem dL_weigh_15 : decode cL_weigh 15 = .ok (.astore 5, 2) := by decide +kernel
theorem dL_weigh_17 : decode cL_weigh 17 = .ok (.iconst 1, 1) := by decide +kernel
theorem dL_weigh_18 : decode cL_weigh 18 = .ok (.ireturn, 1) := by decide +kernel
theorem dL_weigh_19 : decode cL_weigh 19 = .ok (.astore 5, 2) := by decide +kernel
theorem dL_weigh_21 : decode cL_weigh 21 = .ok (.iconst 2, 1) := by decide +kernel
theorem dL_weigh_22 : decode cL_weigh 22 = .ok (.ireturn, 1) := by decide +kernel
theorem dL_weigh_23 : decode cL_weigh 23 = .ok (.iconst 0, 1) := by decide +kernel
theorem dL_weigh_24 : decode cL_weigh 24 = .ok (.ireturn, 1) := by decide +kernel
set_option maxRecDepth 20000 in
theorem ggL_find_X0_find : GoodIn wsL_find wsX0_find := goodIn_ca (goodIn_r _ [6, 7, 8, 9, 10, 11, 12, 13, 14, 15] (by decide +kernel) (by decide +kernel)) (goodIn_sub (fun _ h => List.mem_cons_of_mem _ (List.mem_append_right _ h)) (by decide +kernel))
set_option maxRecDepth 20000 in
theorem gL_find_X0_find : GoodIn wsL_find (wsV RL 26 RX0 yX0_find wsX0_find) := goodIn_app (goodIn_of _ (by decide +kernel)) ggL_find_X0_find
theorem dL_find_0 : decode cL_find 0 = .ok (.aload_n 2, 1) := by decide +kernel
theorem dL_find_1 : decode cL_find 1 = .ok (.iconst 0, 1) := by decide +kernel
theorem dL_find_2 : decode cL_find 2 = .ok (.aload_n 0, 1) := by decide +kernel
theorem dL_find_3 : decode cL_find 3 = .ok (.iload_n 1, 1) := by decide +kernel
theorem dL_find_4 : decode cL_find 4 = .ok (.invokevirtual 26, 3) := by decide +kernel
theorem dL_find_7 : decode cL_find 7 = .ok (.i2l, 1) := by decide +kernel
theorem dL_find_8 : decode cL_find 8 = .ok (.lastore, 1) := by decide +kernel
theorem dL_find_9 : decode cL_find 9 = .ok (.goto 6, 3) := by decide +kernel
theorem dL_find_12 : decode cL_find 12 = .ok (.astore_n 3, 1) := by decide +kernel
theorem dL_find_13 : decode cL_find 13 = .ok (.iconst 1, 1) := by decide +kernel
theorem dL_find_14 : decode cL_find 14 = .ok (.ireturn, 1) := by decide +kernel
theorem dL_find_15 : decode cL_find 15 = .ok (.iconst 0, 1) := by decide +kernel
theorem dL_find_16 : decode cL_find 16 = .ok (.ireturn, 1) := by decide +kernel
set_option maxRecDepth 20000 in
theorem ggL_sum_X0_sum : GoodIn wsL_sum wsX0_sum := goodIn_ca (goodIn_ca (goodIn_r _ [7, 8, 9, 10, 11, 12, 13, 14, 15, 6, 16, 17, 18, 19, 20, 21, 22, 23, 24, 25, 26, 27, 28, 29, 30, 31, 32, 33, 34, 35] (by decide +kernel) (by decide +kernel)) (goodIn_sub (fun _ h => List.mem_cons_of_mem _ (List.mem_append_left _ (List.mem_append_right _ h))) (by decide +kernel))) (goodIn_sub (fun _ h => List.mem_cons_of_mem _ (List.mem_append_right _ h)) (by decide +kernel))
set_option maxRecDepth 20000 in
theorem gL_sum_X0_sum : GoodIn wsL_sum (wsV RL 30 RX0 yX0_sum wsX0_sum) := goodIn_app (goodIn_of _ (by decide +kernel)) ggL_sum_X0_sum
theorem dL_sum_0 : decode cL_sum 0 = .ok (.aload_n 3, 1) := by decide +kernel
theorem dL_sum_1 : decode cL_sum 1 = .ok (.iconst 0, 1) := by decide +kernel
theorem dL_sum_2 : decode cL_sum 2 = .ok (.aload_n 0, 1) := by decide +kernel
theorem dL_sum_3 : decode cL_sum 3 = .ok (.iload_n 1, 1) := by decide +kernel
theorem dL_sum_4 : decode cL_sum 4 = .ok (.iload_n 2, 1) := by decide +kernel
theorem dL_sum_5 : decode cL_sum 5 = .ok (.invokevirtual 30, 3) := by decide +kernel
theorem dL_sum_8 : decode cL_sum 8 = .ok (.i2l, 1) := by decide +kernel
theorem dL_sum_9 : decode cL_sum 9 = .ok (.lastore, 1) := by decide +kernel
theorem dL_sum_10 : decode cL_sum 10 = .ok (.goto 11, 3) := by decide +kernel
theorem dL_sum_13 : decode cL_sum 13 = .ok (.astore 4, 2) := by decide +kernel
theorem dL_sum_15 : decode cL_sum 15 = .ok (.iconst 1, 1) := by decide +kernel
theorem dL_sum_16 : decode cL_sum 16 = .ok (.ireturn, 1) := by decide +kernel
theorem dL_sum_17 : decode cL_sum 17 = .ok (.astore 4, 2) := by decide +kernel
theorem dL_sum_19 : decode cL_sum 19 = .ok (.iconst 2, 1) := by decide +kernel
theorem dL_sum_20 : decode cL_sum 20 = .ok (.ireturn, 1) := by decide +kernel
theorem dL_sum_21 : decode cL_sum 21 = .ok (.iconst 0, 1) := by decide +kernel
theorem dL_sum_22 : decode cL_sum 22 = .ok (.ireturn, 1) := by decide +kernel
set_option maxRecDepth 20000 in
theorem ggL_next_X0_next : GoodIn wsL_next wsX0_next := goodIn_ca (goodIn_r _ [6, 7, 8, 9, 10, 11, 12, 13, 5, 14, 15, 16, 17, 18, 19, 20, 21, 22, 23, 24, 25, 26, 27, 28, 29, 30] (by decide +kernel) (by decide +kernel)) (goodIn_sub (fun _ h => List.mem_cons_of_mem _ (List.mem_append_right _ h)) (by decide +kernel))
set_option maxRecDepth 20000 in
theorem gL_next_X0_next : GoodIn wsL_next (wsV RL 34 RX0 yX0_next wsX0_next) := goodIn_app (goodIn_of _ (by decide +kernel)) ggL_next_X0_next
theorem dL_next_0 : decode cL_next 0 = .ok (.aload_n 2, 1) := by decide +kernel
theorem dL_next_1 : decode cL_next 1 = .ok (.iconst 0, 1) := by decide +kernel
theorem dL_next_2 : decode cL_next 2 = .ok (.aload_n 0, 1) := by decide +kernel
theorem dL_next_3 : decode cL_next 3 = .ok (.iload_n 1, 1) := by decide +kernel
theorem dL_next_4 : decode cL_next 4 = .ok (.invokevirtual 34, 3) := by decide +kernel
theorem dL_next_7 : decode cL_next 7 = .ok (.i2l, 1) := by decide +kernel
theorem dL_next_8 : decode cL_next 8 = .ok (.lastore, 1) := by decide +kernel
theorem dL_next_9 : decode cL_next 9 = .ok (.goto 6, 3) := by decide +kernel
theorem dL_next_12 : decode cL_next 12 = .ok (.astore_n 3, 1) := by decide +kernel
theorem dL_next_13 : decode cL_next 13 = .ok (.iconst 1, 1) := by decide +kernel
theorem dL_next_14 : decode cL_next 14 = .ok (.ireturn, 1) := by decide +kernel
theorem dL_next_15 : decode cL_next 15 = .ok (.iconst 0, 1) := by decide +kernel
theorem dL_next_16 : decode cL_next 16 = .ok (.ireturn, 1) := by decide +kernel
set_option maxRecDepth 20000 in
theorem ggL_place_X0_place : GoodIn wsL_place wsX0_place := goodIn_ca (goodIn_r _ [6, 7, 8, 9, 5, 10, 11, 12, 13, 14, 15, 16, 17, 18, 19, 20, 21, 22] (by decide +kernel) (by decide +kernel)) (goodIn_sub (fun _ h => List.mem_cons_of_mem _ (List.mem_append_right _ h)) (by decide +kernel))
set_option maxRecDepth 20000 in
theorem gL_place_X0_place : GoodIn wsL_place (wsV RL 37 RX0 yX0_place wsX0_place) := goodIn_app (goodIn_of _ (by decide +kernel)) ggL_place_X0_place
theorem dL_place_0 : decode cL_place 0 = .ok (.aload_n 2, 1) := by decide +kernel
theorem dL_place_1 : decode cL_place 1 = .ok (.iconst 0, 1) := by decide +kernel
theorem dL_place_2 : decode cL_place 2 = .ok (.aload_n 0, 1) := by decide +kernel
theorem dL_place_3 : decode cL_place 3 = .ok (.iload_n 1, 1) := by decide +kernel
theorem dL_place_4 : decode cL_place 4 = .ok (.invokevirtual 37, 3) := by decide +kernel
theorem dL_place_7 : decode cL_place 7 = .ok (.i2l, 1) := by decide +kernel
theorem dL_place_8 : decode cL_place 8 = .ok (.lastore, 1) := by decide +kernel
theorem dL_place_9 : decode cL_place 9 = .ok (.goto 6, 3) := by decide +kernel
theorem dL_place_12 : decode cL_place 12 = .ok (.astore_n 3, 1) := by decide +kernel
theorem dL_place_13 : decode cL_place 13 = .ok (.iconst 1, 1) := by decide +kernel
theorem dL_place_14 : decode cL_place 14 = .ok (.ireturn, 1) := by decide +kernel
theorem dL_place_15 : decode cL_place 15 = .ok (.iconst 0, 1) := by decide +kernel
theorem dL_place_16 : decode cL_place 16 = .ok (.ireturn, 1) := by decide +kernel
set_option maxRecDepth 20000 in
theorem ggL_law_X0_init : GoodIn wsL_law wsX0_init := goodIn_r _ [8, 9, 10, 11, 12, 13, 14, 15, 16, 122, 123, 124, 125] (by decide +kernel) (by decide +kernel)
set_option maxRecDepth 20000 in
theorem gL_law_X0_init : GoodIn wsL_law (wsX0_init) := ggL_law_X0_init
set_option maxRecDepth 20000 in
theorem ggL_law_X1_init : GoodIn wsL_law wsX1_init := goodIn_r _ [19, 20, 10, 11, 12, 21, 22, 23, 126] (by decide +kernel) (by decide +kernel)
set_option maxRecDepth 20000 in
theorem gL_law_X1_init : GoodIn wsL_law (wsX1_init) := ggL_law_X1_init
set_option maxRecDepth 20000 in
theorem ggL_law_L_behind : GoodIn wsL_law wsL_behind := goodIn_ca (goodIn_ca (goodIn_ca (goodIn_r _ [27, 28, 29, 30, 31, 32, 33, 2, 34, 35, 36, 16, 37, 38, 39, 40, 41, 42, 43, 44, 45, 46, 47, 48, 49, 50, 51, 52, 53, 54, 55, 56, 57, 58, 59, 60, 61, 62, 63, 13, 64, 65, 66, 67, 68, 69, 70, 71, 14, 15, 122, 123, 124, 125] (by decide +kernel) (by decide +kernel)) (goodIn_sub (fun _ h => List.mem_append_left _ (List.mem_append_left _ (List.mem_append_right _ h))) (by decide +kernel))) (goodIn_sub (fun _ h => List.mem_append_left _ (List.mem_append_right _ h)) (by decide +kernel))) (goodIn_sub (fun _ h => List.mem_append_right _ h) (by decide +kernel))
set_option maxRecDepth 20000 in
theorem gL_law_L_behind : GoodIn wsL_law (va_wsS RL 44 yL_behind wsL_behind) := goodIn_app (goodIn_of _ (by decide +kernel)) ggL_law_L_behind
set_option maxRecDepth 20000 in
theorem ggL_law_L_before : GoodIn wsL_law wsL_before := goodIn_ca (goodIn_ca (goodIn_ca (goodIn_r _ [74, 28, 29, 30, 75, 76, 77, 2, 78, 16, 37, 38, 39, 35, 36, 44, 45, 46, 47, 48, 49, 50, 51, 52, 53, 54, 55, 60, 61, 62, 63, 13, 64, 65, 66, 67, 68, 69, 70, 71, 14, 15, 122, 123, 124, 125] (by decide +kernel) (by decide +kernel)) (goodIn_sub (fun _ h => List.mem_append_left _ (List.mem_append_left _ (List.mem_append_right _ h))) (by decide +kernel))) (goodIn_sub (fun _ h => List.mem_append_left _ (List.mem_append_right _ h)) (by decide +kernel))) (goodIn_sub (fun _ h => List.mem_append_right _ h) (by decide +kernel))
set_option maxRecDepth 20000 in
theorem gL_law_L_before : GoodIn wsL_law (va_wsS RL 54 yL_before wsL_before) := goodIn_app (goodIn_of _ (by decide +kernel)) ggL_law_L_before
set_option maxRecDepth 20000 in
theorem ggL_law_L_weigh : GoodIn wsL_law wsL_weigh := goodIn_ca (goodIn_ca (goodIn_r _ [81, 28, 29, 82, 83, 84, 2, 85, 14, 15, 37, 38, 39, 35, 36, 44, 45, 46, 47, 48, 49, 16, 122, 123, 124, 125] (by decide +kernel) (by decide +kernel)) (goodIn_sub (fun _ h => List.mem_append_left _ (List.mem_append_left _ (List.mem_append_right _ h))) (by decide +kernel))) (goodIn_sub (fun _ h => List.mem_append_left _ (List.mem_append_right _ h)) (by decide +kernel))
set_option maxRecDepth 20000 in
theorem gL_law_L_weigh : GoodIn wsL_law (va_wsS RL 58 yL_weigh wsL_weigh) := goodIn_app (goodIn_of _ (by decide +kernel)) ggL_law_L_weigh
set_option maxRecDepth 20000 in
theorem ggL_law_L_find : GoodIn wsL_law wsL_find := goodIn_ca (goodIn_r _ [88, 29, 89, 90, 91, 2, 92, 48, 49, 16, 14, 13, 122, 123, 124, 125] (by decide +kernel) (by decide +kernel)) (goodIn_sub (fun _ h => List.mem_append_left _ (List.mem_append_right _ h)) (by decide +kernel))
set_option maxRecDepth 20000 in
theorem gL_law_L_find : GoodIn wsL_law (va_wsS RL 61 yL_find wsL_find) := goodIn_app (goodIn_of _ (by decide +kernel)) ggL_law_L_find
set_option maxRecDepth 20000 in
theorem ggL_law_L_sum : GoodIn wsL_law wsL_sum := goodIn_ca (goodIn_ca (goodIn_r _ [95, 28, 29, 96, 97, 98, 2, 99, 35, 36, 16, 14, 15, 40, 41, 42, 43, 44, 45, 46, 47, 48, 49, 60, 61, 62, 63, 13, 100, 101, 102, 103, 122, 123, 124, 125] (by decide +kernel) (by decide +kernel)) (goodIn_sub (fun _ h => List.mem_append_left _ (List.mem_append_left _ (List.mem_append_right _ h))) (by decide +kernel))) (goodIn_sub (fun _ h => List.mem_append_left _ (List.mem_append_right _ h)) (by decide +kernel))
set_option maxRecDepth 20000 in
theorem gL_law_L_sum : GoodIn wsL_law (va_wsS RL 65 yL_sum wsL_sum) := goodIn_app (goodIn_of _ (by decide +kernel)) ggL_law_L_sum
set_option maxRecDepth 20000 in
theorem ggL_law_L_next : GoodIn wsL_law wsL_next := goodIn_ca (goodIn_r _ [106, 29, 107, 108, 109, 2, 110, 48, 49, 16, 13, 40, 41, 42, 43, 44, 45, 46, 47, 56, 57, 58, 59, 60, 61, 62, 63, 122, 123, 124, 125] (by decide +kernel) (by decide +kernel)) (goodIn_sub (fun _ h => List.mem_append_left _ (List.mem_append_right _ h)) (by decide +kernel))
set_option maxRecDepth 20000 in
theorem gL_law_L_next : GoodIn wsL_law (va_wsS RL 69 yL_next wsL_next) := goodIn_app (goodIn_of _ (by decide +kernel)) ggL_law_L_next
set_option maxRecDepth 20000 in
theorem ggL_law_L_place : GoodIn wsL_law wsL_place := goodIn_ca (goodIn_r _ [113, 29, 114, 115, 116, 2, 117, 44, 45, 46, 47, 48, 49, 16, 60, 61, 62, 63, 13, 122, 123, 124, 125] (by decide +kernel) (by decide +kernel)) (goodIn_sub (fun _ h => List.mem_append_left _ (List.mem_append_right _ h)) (by decide +kernel))
set_option maxRecDepth 20000 in
theorem gL_law_L_place : GoodIn wsL_law (va_wsS RL 72 yL_place wsL_place) := goodIn_app (goodIn_of _ (by decide +kernel)) ggL_law_L_place
set_option maxRecDepth 20000 in
theorem ggL_law_X0_entries : GoodIn wsL_law wsX0_entries := goodIn_r _ [121, 16, 122, 123, 124, 125] (by decide +kernel) (by decide +kernel)
set_option maxRecDepth 20000 in
theorem gL_law_X0_entries : GoodIn wsL_law (wsV RL 75 RX0 yX0_entries wsX0_entries) := goodIn_app (goodIn_of _ (by decide +kernel)) ggL_law_X0_entries
theorem dL_law_0 : decode cL_law 0 = .ok (.new 8, 3) := by decide +kernel
theorem dL_law_3 : decode cL_law 3 = .ok (.dup, 1) := by decide +kernel
theorem dL_law_4 : decode cL_law 4 = .ok (.invokespecial 40, 3) := by decide +kernel
theorem dL_law_7 : decode cL_law 7 = .ok (.astore_n 1, 1) := by decide +kernel
theorem dL_law_8 : decode cL_law 8 = .ok (.new 41, 3) := by decide +kernel
theorem dL_law_11 : decode cL_law 11 = .ok (.dup, 1) := by decide +kernel
theorem dL_law_12 : decode cL_law 12 = .ok (.invokespecial 43, 3) := by decide +kernel
theorem dL_law_15 : decode cL_law 15 = .ok (.astore_n 2, 1) := by decide +kernel
theorem dL_law_16 : decode cL_law 16 = .ok (.iconst 1, 1) := by decide +kernel
theorem dL_law_17 : decode cL_law 17 = .ok (.newarray .long, 2) := by decide +kernel
theorem dL_law_19 : decode cL_law 19 = .ok (.astore_n 3, 1) := by decide +kernel
theorem dL_law_20 : decode cL_law 20 = .ok (.iconst 0, 1) := by decide +kernel
theorem dL_law_21 : decode cL_law 21 = .ok (.istore 4, 2) := by decide +kernel
theorem dL_law_23 : decode cL_law 23 = .ok (.iload 4, 2) := by decide +kernel
theorem dL_law_25 : decode cL_law 25 = .ok (.aload_n 0, 1) := by decide +kernel
theorem dL_law_26 : decode cL_law 26 = .ok (.arraylength, 1) := by decide +kernel
theorem dL_law_27 : decode cL_law 27 = .ok (.iconst 5, 1) := by decide +kernel
theorem dL_law_28 : decode cL_law 28 = .ok (.isub, 1) := by decide +kernel
theorem dL_law_29 : decode cL_law 29 = .ok (.if_icmp .gt 562, 3) := by decide +kernel
theorem dL_law_32 : decode cL_law 32 = .ok (.aload_n 0, 1) := by decide +kernel
theorem dL_law_33 : decode cL_law 33 = .ok (.iload 4, 2) := by decide +kernel
theorem dL_law_35 : decode cL_law 35 = .ok (.iaload, 1) := by decide +kernel
theorem dL_law_36 : decode cL_law 36 = .ok (.bipush 7, 2) := by decide +kernel
theorem dL_law_38 : decode cL_law 38 = .ok (.iand, 1) := by decide +kernel
theorem dL_law_39 : decode cL_law 39 = .ok (.tableswitch 546 0 7 #[45, 137, 217, 297, 353, 421, 477, 533], 45) := by decide +kernel
theorem dL_law_84 : decode cL_law 84 = .ok (.aload_n 1, 1) := by decide +kernel
theorem dL_law_85 : decode cL_law 85 = .ok (.aload_n 0, 1) := by decide +kernel
theorem dL_law_86 : decode cL_law 86 = .ok (.iload 4, 2) := by decide +kernel
theorem dL_law_88 : decode cL_law 88 = .ok (.iconst 1, 1) := by decide +kernel
theorem dL_law_89 : decode cL_law 89 = .ok (.iadd, 1) := by decide +kernel
theorem dL_law_90 : decode cL_law 90 = .ok (.iaload, 1) := by decide +kernel
theorem dL_law_91 : decode cL_law 91 = .ok (.aload_n 0, 1) := by decide +kernel
theorem dL_law_92 : decode cL_law 92 = .ok (.iload 4, 2) := by decide +kernel
theorem dL_law_94 : decode cL_law 94 = .ok (.iconst 2, 1) := by decide +kernel
theorem dL_law_95 : decode cL_law 95 = .ok (.iadd, 1) := by decide +kernel
theorem dL_law_96 : decode cL_law 96 = .ok (.iaload, 1) := by decide +kernel
theorem dL_law_97 : decode cL_law 97 = .ok (.aload_n 0, 1) := by decide +kernel
theorem dL_law_98 : decode cL_law 98 = .ok (.iload 4, 2) := by decide +kernel
theorem dL_law_100 : decode cL_law 100 = .ok (.iconst 3, 1) := by decide +kernel
theorem dL_law_101 : decode cL_law 101 = .ok (.iadd, 1) := by decide +kernel
theorem dL_law_102 : decode cL_law 102 = .ok (.iaload, 1) := by decide +kernel
theorem dL_law_103 : decode cL_law 103 = .ok (.aload_n 0, 1) := by decide +kernel
theorem dL_law_104 : decode cL_law 104 = .ok (.iload 4, 2) := by decide +kernel
theorem dL_law_106 : decode cL_law 106 = .ok (.iconst 4, 1) := by decide +kernel
theorem dL_law_107 : decode cL_law 107 = .ok (.iadd, 1) := by decide +kernel
theorem dL_law_108 : decode cL_law 108 = .ok (.iaload, 1) := by decide +kernel
theorem dL_law_109 : decode cL_law 109 = .ok (.aload_n 3, 1) := by decide +kernel
theorem dL_law_110 : decode cL_law 110 = .ok (.invokestatic 44, 3) := by decide +kernel
theorem dL_law_113 : decode cL_law 113 = .ok (.istore 5, 2) := by decide +kernel
theorem dL_law_115 : decode cL_law 115 = .ok (.aload_n 2, 1) := by decide +kernel
theorem dL_law_116 : decode cL_law 116 = .ok (.aload_n 0, 1) := by decide +kernel
theorem dL_law_117 : decode cL_law 117 = .ok (.iload 4, 2) := by decide +kernel
theorem dL_law_119 : decode cL_law 119 = .ok (.iconst 1, 1) := by decide +kernel
theorem dL_law_120 : decode cL_law 120 = .ok (.iadd, 1) := by decide +kernel
theorem dL_law_121 : decode cL_law 121 = .ok (.iaload, 1) := by decide +kernel
theorem dL_law_122 : decode cL_law 122 = .ok (.aload_n 0, 1) := by decide +kernel
theorem dL_law_123 : decode cL_law 123 = .ok (.iload 4, 2) := by decide +kernel
theorem dL_law_125 : decode cL_law 125 = .ok (.iconst 2, 1) := by decide +kernel
theorem dL_law_126 : decode cL_law 126 = .ok (.iadd, 1) := by decide +kernel
theorem dL_law_127 : decode cL_law 127 = .ok (.iaload, 1) := by decide +kernel
theorem dL_law_128 : decode cL_law 128 = .ok (.aload_n 0, 1) := by decide +kernel
theorem dL_law_129 : decode cL_law 129 = .ok (.iload 4, 2) := by decide +kernel
theorem dL_law_131 : decode cL_law 131 = .ok (.iconst 3, 1) := by decide +kernel
theorem dL_law_132 : decode cL_law 132 = .ok (.iadd, 1) := by decide +kernel
theorem dL_law_133 : decode cL_law 133 = .ok (.iaload, 1) := by decide +kernel
theorem dL_law_134 : decode cL_law 134 = .ok (.aload_n 0, 1) := by decide +kernel
theorem dL_law_135 : decode cL_law 135 = .ok (.iload 4, 2) := by decide +kernel
theorem dL_law_137 : decode cL_law 137 = .ok (.iconst 4, 1) := by decide +kernel
theorem dL_law_138 : decode cL_law 138 = .ok (.iadd, 1) := by decide +kernel
theorem dL_law_139 : decode cL_law 139 = .ok (.iaload, 1) := by decide +kernel
theorem dL_law_140 : decode cL_law 140 = .ok (.invokevirtual 49, 3) := by decide +kernel
theorem dL_law_143 : decode cL_law 143 = .ok (.istore 6, 2) := by decide +kernel
theorem dL_law_145 : decode cL_law 145 = .ok (.aload_n 2, 1) := by decide +kernel
theorem dL_law_146 : decode cL_law 146 = .ok (.invokevirtual 50, 3) := by decide +kernel
theorem dL_law_149 : decode cL_law 149 = .ok (.iload 5, 2) := by decide +kernel
theorem dL_law_151 : decode cL_law 151 = .ok (.if_icmp .eq 5, 3) := by decide +kernel
theorem dL_law_154 : decode cL_law 154 = .ok (.iconst 0, 1) := by decide +kernel
theorem dL_law_155 : decode cL_law 155 = .ok (.ireturn, 1) := by decide +kernel
theorem dL_law_156 : decode cL_law 156 = .ok (.iload 5, 2) := by decide +kernel
theorem dL_law_158 : decode cL_law 158 = .ok (.ifCond .ne 15, 3) := by decide +kernel
theorem dL_law_161 : decode cL_law 161 = .ok (.aload_n 3, 1) := by decide +kernel
theorem dL_law_162 : decode cL_law 162 = .ok (.iconst 0, 1) := by decide +kernel
theorem dL_law_163 : decode cL_law 163 = .ok (.laload, 1) := by decide +kernel
theorem dL_law_164 : decode cL_law 164 = .ok (.iload 6, 2) := by decide +kernel
theorem dL_law_166 : decode cL_law 166 = .ok (.i2l, 1) := by decide +kernel
theorem dL_law_167 : decode cL_law 167 = .ok (.lcmp, 1) := by decide +kernel
theorem dL_law_168 : decode cL_law 168 = .ok (.ifCond .eq 5, 3) := by decide +kernel
theorem dL_law_171 : decode cL_law 171 = .ok (.iconst 0, 1) := by decide +kernel
theorem dL_law_172 : decode cL_law 172 = .ok (.ireturn, 1) := by decide +kernel
theorem dL_law_173 : decode cL_law 173 = .ok (.goto 412, 3) := by decide +kernel
theorem dL_law_176 : decode cL_law 176 = .ok (.aload_n 1, 1) := by decide +kernel
theorem dL_law_177 : decode cL_law 177 = .ok (.aload_n 0, 1) := by decide +kernel
theorem dL_law_178 : decode cL_law 178 = .ok (.iload 4, 2) := by decide +kernel
theorem dL_law_180 : decode cL_law 180 = .ok (.iconst 1, 1) := by decide +kernel
theorem dL_law_181 : decode cL_law 181 = .ok (.iadd, 1) := by decide +kernel
theorem dL_law_182 : decode cL_law 182 = .ok (.iaload, 1) := by decide +kernel
theorem dL_law_183 : decode cL_law 183 = .ok (.aload_n 0, 1) := by decide +kernel
theorem dL_law_184 : decode cL_law 184 = .ok (.iload 4, 2) := by decide +kernel
theorem dL_law_186 : decode cL_law 186 = .ok (.iconst 2, 1) := by decide +kernel
theorem dL_law_187 : decode cL_law 187 = .ok (.iadd, 1) := by decide +kernel
theorem dL_law_188 : decode cL_law 188 = .ok (.iaload, 1) := by decide +kernel
theorem dL_law_189 : decode cL_law 189 = .ok (.aload_n 0, 1) := by decide +kernel
theorem dL_law_190 : decode cL_law 190 = .ok (.iload 4, 2) := by decide +kernel
theorem dL_law_192 : decode cL_law 192 = .ok (.iconst 3, 1) := by decide +kernel
theorem dL_law_193 : decode cL_law 193 = .ok (.iadd, 1) := by decide +kernel
theorem dL_law_194 : decode cL_law 194 = .ok (.iaload, 1) := by decide +kernel
theorem dL_law_195 : decode cL_law 195 = .ok (.aload_n 3, 1) := by decide +kernel
theorem dL_law_196 : decode cL_law 196 = .ok (.invokestatic 54, 3) := by decide +kernel
theorem dL_law_199 : decode cL_law 199 = .ok (.istore 5, 2) := by decide +kernel
theorem dL_law_201 : decode cL_law 201 = .ok (.aload_n 2, 1) := by decide +kernel
theorem dL_law_202 : decode cL_law 202 = .ok (.aload_n 0, 1) := by decide +kernel
theorem dL_law_203 : decode cL_law 203 = .ok (.iload 4, 2) := by decide +kernel
theorem dL_law_205 : decode cL_law 205 = .ok (.iconst 1, 1) := by decide +kernel
theorem dL_law_206 : decode cL_law 206 = .ok (.iadd, 1) := by decide +kernel
theorem dL_law_207 : decode cL_law 207 = .ok (.iaload, 1) := by decide +kernel
theorem dL_law_208 : decode cL_law 208 = .ok (.aload_n 0, 1) := by decide +kernel
theorem dL_law_209 : decode cL_law 209 = .ok (.iload 4, 2) := by decide +kernel
theorem dL_law_211 : decode cL_law 211 = .ok (.iconst 2, 1) := by decide +kernel
theorem dL_law_212 : decode cL_law 212 = .ok (.iadd, 1) := by decide +kernel
theorem dL_law_213 : decode cL_law 213 = .ok (.iaload, 1) := by decide +kernel
theorem dL_law_214 : decode cL_law 214 = .ok (.aload_n 0, 1) := by decide +kernel
theorem dL_law_215 : decode cL_law 215 = .ok (.iload 4, 2) := by decide +kernel
theorem dL_law_217 : decode cL_law 217 = .ok (.iconst 3, 1) := by decide +kernel
theorem dL_law_218 : decode cL_law 218 = .ok (.iadd, 1) := by decide +kernel
theorem dL_law_219 : decode cL_law 219 = .ok (.iaload, 1) := by decide +kernel
theorem dL_law_220 : decode cL_law 220 = .ok (.invokevirtual 57, 3) := by decide +kernel
theorem dL_law_223 : decode cL_law 223 = .ok (.istore 6, 2) := by decide +kernel
theorem dL_law_225 : decode cL_law 225 = .ok (.aload_n 2, 1) := by decide +kernel
theorem dL_law_226 : decode cL_law 226 = .ok (.invokevirtual 50, 3) := by decide +kernel
theorem dL_law_229 : decode cL_law 229 = .ok (.iload 5, 2) := by decide +kernel
theorem dL_law_231 : decode cL_law 231 = .ok (.if_icmp .eq 5, 3) := by decide +kernel
theorem dL_law_234 : decode cL_law 234 = .ok (.iconst 0, 1) := by decide +kernel
theorem dL_law_235 : decode cL_law 235 = .ok (.ireturn, 1) := by decide +kernel
theorem dL_law_236 : decode cL_law 236 = .ok (.iload 5, 2) := by decide +kernel
theorem dL_law_238 : decode cL_law 238 = .ok (.ifCond .ne 15, 3) := by decide +kernel
theorem dL_law_241 : decode cL_law 241 = .ok (.aload_n 3, 1) := by decide +kernel
theorem dL_law_242 : decode cL_law 242 = .ok (.iconst 0, 1) := by decide +kernel
theorem dL_law_243 : decode cL_law 243 = .ok (.laload, 1) := by decide +kernel
theorem dL_law_244 : decode cL_law 244 = .ok (.iload 6, 2) := by decide +kernel
theorem dL_law_246 : decode cL_law 246 = .ok (.i2l, 1) := by decide +kernel
theorem dL_law_247 : decode cL_law 247 = .ok (.lcmp, 1) := by decide +kernel
theorem dL_law_248 : decode cL_law 248 = .ok (.ifCond .eq 5, 3) := by decide +kernel
theorem dL_law_251 : decode cL_law 251 = .ok (.iconst 0, 1) := by decide +kernel
theorem dL_law_252 : decode cL_law 252 = .ok (.ireturn, 1) := by decide +kernel
theorem dL_law_253 : decode cL_law 253 = .ok (.goto 332, 3) := by decide +kernel
theorem dL_law_256 : decode cL_law 256 = .ok (.aload_n 1, 1) := by decide +kernel
theorem dL_law_257 : decode cL_law 257 = .ok (.aload_n 0, 1) := by decide +kernel
theorem dL_law_258 : decode cL_law 258 = .ok (.iload 4, 2) := by decide +kernel
theorem dL_law_260 : decode cL_law 260 = .ok (.iconst 1, 1) := by decide +kernel
theorem dL_law_261 : decode cL_law 261 = .ok (.iadd, 1) := by decide +kernel
theorem dL_law_262 : decode cL_law 262 = .ok (.iaload, 1) := by decide +kernel
theorem dL_law_263 : decode cL_law 263 = .ok (.aload_n 0, 1) := by decide +kernel
theorem dL_law_264 : decode cL_law 264 = .ok (.iload 4, 2) := by decide +kernel
theorem dL_law_266 : decode cL_law 266 = .ok (.iconst 2, 1) := by decide +kernel
theorem dL_law_267 : decode cL_law 267 = .ok (.iadd, 1) := by decide +kernel
theorem dL_law_268 : decode cL_law 268 = .ok (.iaload, 1) := by decide +kernel
theorem dL_law_269 : decode cL_law 269 = .ok (.aload_n 0, 1) := by decide +kernel
theorem dL_law_270 : decode cL_law 270 = .ok (.iload 4, 2) := by decide +kernel
theorem dL_law_272 : decode cL_law 272 = .ok (.iconst 3, 1) := by decide +kernel
theorem dL_law_273 : decode cL_law 273 = .ok (.iadd, 1) := by decide +kernel
theorem dL_law_274 : decode cL_law 274 = .ok (.iaload, 1) := by decide +kernel
theorem dL_law_275 : decode cL_law 275 = .ok (.aload_n 3, 1) := by decide +kernel
theorem dL_law_276 : decode cL_law 276 = .ok (.invokestatic 58, 3) := by decide +kernel
theorem dL_law_279 : decode cL_law 279 = .ok (.istore 5, 2) := by decide +kernel
theorem dL_law_281 : decode cL_law 281 = .ok (.aload_n 2, 1) := by decide +kernel
theorem dL_law_282 : decode cL_law 282 = .ok (.aload_n 0, 1) := by decide +kernel
theorem dL_law_283 : decode cL_law 283 = .ok (.iload 4, 2) := by decide +kernel
theorem dL_law_285 : decode cL_law 285 = .ok (.iconst 1, 1) := by decide +kernel
theorem dL_law_286 : decode cL_law 286 = .ok (.iadd, 1) := by decide +kernel
theorem dL_law_287 : decode cL_law 287 = .ok (.iaload, 1) := by decide +kernel
theorem dL_law_288 : decode cL_law 288 = .ok (.aload_n 0, 1) := by decide +kernel
theorem dL_law_289 : decode cL_law 289 = .ok (.iload 4, 2) := by decide +kernel
theorem dL_law_291 : decode cL_law 291 = .ok (.iconst 2, 1) := by decide +kernel
theorem dL_law_292 : decode cL_law 292 = .ok (.iadd, 1) := by decide +kernel
theorem dL_law_293 : decode cL_law 293 = .ok (.iaload, 1) := by decide +kernel
theorem dL_law_294 : decode cL_law 294 = .ok (.aload_n 0, 1) := by decide +kernel
theorem dL_law_295 : decode cL_law 295 = .ok (.iload 4, 2) := by decide +kernel
theorem dL_law_297 : decode cL_law 297 = .ok (.iconst 3, 1) := by decide +kernel
theorem dL_law_298 : decode cL_law 298 = .ok (.iadd, 1) := by decide +kernel
theorem dL_law_299 : decode cL_law 299 = .ok (.iaload, 1) := by decide +kernel
theorem dL_law_300 : decode cL_law 300 = .ok (.invokevirtual 60, 3) := by decide +kernel
theorem dL_law_303 : decode cL_law 303 = .ok (.istore 6, 2) := by decide +kernel
theorem dL_law_305 : decode cL_law 305 = .ok (.aload_n 2, 1) := by decide +kernel
theorem dL_law_306 : decode cL_law 306 = .ok (.invokevirtual 50, 3) := by decide +kernel
theorem dL_law_309 : decode cL_law 309 = .ok (.iload 5, 2) := by decide +kernel
theorem dL_law_311 : decode cL_law 311 = .ok (.if_icmp .eq 5, 3) := by decide +kernel
theorem dL_law_314 : decode cL_law 314 = .ok (.iconst 0, 1) := by decide +kernel
theorem dL_law_315 : decode cL_law 315 = .ok (.ireturn, 1) := by decide +kernel
theorem dL_law_316 : decode cL_law 316 = .ok (.iload 5, 2) := by decide +kernel
theorem dL_law_318 : decode cL_law 318 = .ok (.ifCond .ne 15, 3) := by decide +kernel
theorem dL_law_321 : decode cL_law 321 = .ok (.aload_n 3, 1) := by decide +kernel
theorem dL_law_322 : decode cL_law 322 = .ok (.iconst 0, 1) := by decide +kernel
theorem dL_law_323 : decode cL_law 323 = .ok (.laload, 1) := by decide +kernel
theorem dL_law_324 : decode cL_law 324 = .ok (.iload 6, 2) := by decide +kernel
theorem dL_law_326 : decode cL_law 326 = .ok (.i2l, 1) := by decide +kernel
theorem dL_law_327 : decode cL_law 327 = .ok (.lcmp, 1) := by decide +kernel
theorem dL_law_328 : decode cL_law 328 = .ok (.ifCond .eq 5, 3) := by decide +kernel
theorem dL_law_331 : decode cL_law 331 = .ok (.iconst 0, 1) := by decide +kernel
theorem dL_law_332 : decode cL_law 332 = .ok (.ireturn, 1) := by decide +kernel
theorem dL_law_333 : decode cL_law 333 = .ok (.goto 252, 3) := by decide +kernel
theorem dL_law_336 : decode cL_law 336 = .ok (.aload_n 1, 1) := by decide +kernel
theorem dL_law_337 : decode cL_law 337 = .ok (.aload_n 0, 1) := by decide +kernel
theorem dL_law_338 : decode cL_law 338 = .ok (.iload 4, 2) := by decide +kernel
theorem dL_law_340 : decode cL_law 340 = .ok (.iconst 1, 1) := by decide +kernel
theorem dL_law_341 : decode cL_law 341 = .ok (.iadd, 1) := by decide +kernel
theorem dL_law_342 : decode cL_law 342 = .ok (.iaload, 1) := by decide +kernel
theorem dL_law_343 : decode cL_law 343 = .ok (.aload_n 3, 1) := by decide +kernel
theorem dL_law_344 : decode cL_law 344 = .ok (.invokestatic 61, 3) := by decide +kernel
theorem dL_law_347 : decode cL_law 347 = .ok (.istore 5, 2) := by decide +kernel
theorem dL_law_349 : decode cL_law 349 = .ok (.aload_n 2, 1) := by decide +kernel
theorem dL_law_350 : decode cL_law 350 = .ok (.aload_n 0, 1) := by decide +kernel
theorem dL_law_351 : decode cL_law 351 = .ok (.iload 4, 2) := by decide +kernel
theorem dL_law_353 : decode cL_law 353 = .ok (.iconst 1, 1) := by decide +kernel
theorem dL_law_354 : decode cL_law 354 = .ok (.iadd, 1) := by decide +kernel
theorem dL_law_355 : decode cL_law 355 = .ok (.iaload, 1) := by decide +kernel
theorem dL_law_356 : decode cL_law 356 = .ok (.invokevirtual 64, 3) := by decide +kernel
theorem dL_law_359 : decode cL_law 359 = .ok (.istore 6, 2) := by decide +kernel
theorem dL_law_361 : decode cL_law 361 = .ok (.aload_n 2, 1) := by decide +kernel
theorem dL_law_362 : decode cL_law 362 = .ok (.invokevirtual 50, 3) := by decide +kernel
theorem dL_law_365 : decode cL_law 365 = .ok (.iload 5, 2) := by decide +kernel
theorem dL_law_367 : decode cL_law 367 = .ok (.if_icmp .eq 5, 3) := by decide +kernel
theorem dL_law_370 : decode cL_law 370 = .ok (.iconst 0, 1) := by decide +kernel
theorem dL_law_371 : decode cL_law 371 = .ok (.ireturn, 1) := by decide +kernel
theorem dL_law_372 : decode cL_law 372 = .ok (.iload 5, 2) := by decide +kernel
theorem dL_law_374 : decode cL_law 374 = .ok (.ifCond .ne 15, 3) := by decide +kernel
theorem dL_law_377 : decode cL_law 377 = .ok (.aload_n 3, 1) := by decide +kernel
theorem dL_law_378 : decode cL_law 378 = .ok (.iconst 0, 1) := by decide +kernel
theorem dL_law_379 : decode cL_law 379 = .ok (.laload, 1) := by decide +kernel
theorem dL_law_380 : decode cL_law 380 = .ok (.iload 6, 2) := by decide +kernel
theorem dL_law_382 : decode cL_law 382 = .ok (.i2l, 1) := by decide +kernel
theorem dL_law_383 : decode cL_law 383 = .ok (.lcmp, 1) := by decide +kernel
theorem dL_law_384 : decode cL_law 384 = .ok (.ifCond .eq 5, 3) := by decide +kernel
theorem dL_law_387 : decode cL_law 387 = .ok (.iconst 0, 1) := by decide +kernel
theorem dL_law_388 : decode cL_law 388 = .ok (.ireturn, 1) := by decide +kernel
theorem dL_law_389 : decode cL_law 389 = .ok (.goto 196, 3) := by decide +kernel
theorem dL_law_392 : decode cL_law 392 = .ok (.aload_n 1, 1) := by decide +kernel
theorem dL_law_393 : decode cL_law 393 = .ok (.aload_n 0, 1) := by decide +kernel
theorem dL_law_394 : decode cL_law 394 = .ok (.iload 4, 2) := by decide +kernel
theorem dL_law_396 : decode cL_law 396 = .ok (.iconst 1, 1) := by decide +kernel
theorem dL_law_397 : decode cL_law 397 = .ok (.iadd, 1) := by decide +kernel
theorem dL_law_398 : decode cL_law 398 = .ok (.iaload, 1) := by decide +kernel
theorem dL_law_399 : decode cL_law 399 = .ok (.aload_n 0, 1) := by decide +kernel
theorem dL_law_400 : decode cL_law 400 = .ok (.iload 4, 2) := by decide +kernel
theorem dL_law_402 : decode cL_law 402 = .ok (.iconst 2, 1) := by decide +kernel
theorem dL_law_403 : decode cL_law 403 = .ok (.iadd, 1) := by decide +kernel
theorem dL_law_404 : decode cL_law 404 = .ok (.iaload, 1) := by decide +kernel
theorem dL_law_405 : decode cL_law 405 = .ok (.aload_n 3, 1) := by decide +kernel
theorem dL_law_406 : decode cL_law 406 = .ok (.invokestatic 65, 3) := by decide +kernel
theorem dL_law_409 : decode cL_law 409 = .ok (.istore 5, 2) := by decide +kernel
theorem dL_law_411 : decode cL_law 411 = .ok (.aload_n 2, 1) := by decide +kernel
theorem dL_law_412 : decode cL_law 412 = .ok (.aload_n 0, 1) := by decide +kernel
theorem dL_law_413 : decode cL_law 413 = .ok (.iload 4, 2) := by decide +kernel
theorem dL_law_415 : decode cL_law 415 = .ok (.iconst 1, 1) := by decide +kernel
theorem dL_law_416 : decode cL_law 416 = .ok (.iadd, 1) := by decide +kernel
theorem dL_law_417 : decode cL_law 417 = .ok (.iaload, 1) := by decide +kernel
theorem dL_law_418 : decode cL_law 418 = .ok (.aload_n 0, 1) := by decide +kernel
theorem dL_law_419 : decode cL_law 419 = .ok (.iload 4, 2) := by decide +kernel
theorem dL_law_421 : decode cL_law 421 = .ok (.iconst 2, 1) := by decide +kernel
theorem dL_law_422 : decode cL_law 422 = .ok (.iadd, 1) := by decide +kernel
theorem dL_law_423 : decode cL_law 423 = .ok (.iaload, 1) := by decide +kernel
theorem dL_law_424 : decode cL_law 424 = .ok (.invokevirtual 68, 3) := by decide +kernel
theorem dL_law_427 : decode cL_law 427 = .ok (.istore 6, 2) := by decide +kernel
theorem dL_law_429 : decode cL_law 429 = .ok (.aload_n 2, 1) := by decide +kernel
theorem dL_law_430 : decode cL_law 430 = .ok (.invokevirtual 50, 3) := by decide +kernel
theorem dL_law_433 : decode cL_law 433 = .ok (.iload 5, 2) := by decide +kernel
theorem dL_law_435 : decode cL_law 435 = .ok (.if_icmp .eq 5, 3) := by decide +kernel
theorem dL_law_438 : decode cL_law 438 = .ok (.iconst 0, 1) := by decide +kernel
theorem dL_law_439 : decode cL_law 439 = .ok (.ireturn, 1) := by decide +kernel
theorem dL_law_440 : decode cL_law 440 = .ok (.iload 5, 2) := by decide +kernel
theorem dL_law_442 : decode cL_law 442 = .ok (.ifCond .ne 15, 3) := by decide +kernel
theorem dL_law_445 : decode cL_law 445 = .ok (.aload_n 3, 1) := by decide +kernel
theorem dL_law_446 : decode cL_law 446 = .ok (.iconst 0, 1) := by decide +kernel
theorem dL_law_447 : decode cL_law 447 = .ok (.laload, 1) := by decide +kernel
theorem dL_law_448 : decode cL_law 448 = .ok (.iload 6, 2) := by decide +kernel
theorem dL_law_450 : decode cL_law 450 = .ok (.i2l, 1) := by decide +kernel
theorem dL_law_451 : decode cL_law 451 = .ok (.lcmp, 1) := by decide +kernel
theorem dL_law_452 : decode cL_law 452 = .ok (.ifCond .eq 5, 3) := by decide +kernel
theorem dL_law_455 : decode cL_law 455 = .ok (.iconst 0, 1) := by decide +kernel
theorem dL_law_456 : decode cL_law 456 = .ok (.ireturn, 1) := by decide +kernel
theorem dL_law_457 : decode cL_law 457 = .ok (.goto 128, 3) := by decide +kernel
theorem dL_law_460 : decode cL_law 460 = .ok (.aload_n 1, 1) := by decide +kernel
theorem dL_law_461 : decode cL_law 461 = .ok (.aload_n 0, 1) := by decide +kernel
theorem dL_law_462 : decode cL_law 462 = .ok (.iload 4, 2) := by decide +kernel
theorem dL_law_464 : decode cL_law 464 = .ok (.iconst 1, 1) := by decide +kernel
theorem dL_law_465 : decode cL_law 465 = .ok (.iadd, 1) := by decide +kernel
theorem dL_law_466 : decode cL_law 466 = .ok (.iaload, 1) := by decide +kernel
theorem dL_law_467 : decode cL_law 467 = .ok (.aload_n 3, 1) := by decide +kernel
theorem dL_law_468 : decode cL_law 468 = .ok (.invokestatic 69, 3) := by decide +kernel
theorem dL_law_471 : decode cL_law 471 = .ok (.istore 5, 2) := by decide +kernel
theorem dL_law_473 : decode cL_law 473 = .ok (.aload_n 2, 1) := by decide +kernel
theorem dL_law_474 : decode cL_law 474 = .ok (.aload_n 0, 1) := by decide +kernel
theorem dL_law_475 : decode cL_law 475 = .ok (.iload 4, 2) := by decide +kernel
theorem dL_law_477 : decode cL_law 477 = .ok (.iconst 1, 1) := by decide +kernel
theorem dL_law_478 : decode cL_law 478 = .ok (.iadd, 1) := by decide +kernel
theorem dL_law_479 : decode cL_law 479 = .ok (.iaload, 1) := by decide +kernel
theorem dL_law_480 : decode cL_law 480 = .ok (.invokevirtual 71, 3) := by decide +kernel
theorem dL_law_483 : decode cL_law 483 = .ok (.istore 6, 2) := by decide +kernel
theorem dL_law_485 : decode cL_law 485 = .ok (.aload_n 2, 1) := by decide +kernel
theorem dL_law_486 : decode cL_law 486 = .ok (.invokevirtual 50, 3) := by decide +kernel
theorem dL_law_489 : decode cL_law 489 = .ok (.iload 5, 2) := by decide +kernel
theorem dL_law_491 : decode cL_law 491 = .ok (.if_icmp .eq 5, 3) := by decide +kernel
theorem dL_law_494 : decode cL_law 494 = .ok (.iconst 0, 1) := by decide +kernel
theorem dL_law_495 : decode cL_law 495 = .ok (.ireturn, 1) := by decide +kernel
theorem dL_law_496 : decode cL_law 496 = .ok (.iload 5, 2) := by decide +kernel
theorem dL_law_498 : decode cL_law 498 = .ok (.ifCond .ne 15, 3) := by decide +kernel
theorem dL_law_501 : decode cL_law 501 = .ok (.aload_n 3, 1) := by decide +kernel
theorem dL_law_502 : decode cL_law 502 = .ok (.iconst 0, 1) := by decide +kernel
theorem dL_law_503 : decode cL_law 503 = .ok (.laload, 1) := by decide +kernel
theorem dL_law_504 : decode cL_law 504 = .ok (.iload 6, 2) := by decide +kernel
theorem dL_law_506 : decode cL_law 506 = .ok (.i2l, 1) := by decide +kernel
theorem dL_law_507 : decode cL_law 507 = .ok (.lcmp, 1) := by decide +kernel
theorem dL_law_508 : decode cL_law 508 = .ok (.ifCond .eq 5, 3) := by decide +kernel
theorem dL_law_511 : decode cL_law 511 = .ok (.iconst 0, 1) := by decide +kernel
theorem dL_law_512 : decode cL_law 512 = .ok (.ireturn, 1) := by decide +kernel
theorem dL_law_513 : decode cL_law 513 = .ok (.goto 72, 3) := by decide +kernel
theorem dL_law_516 : decode cL_law 516 = .ok (.aload_n 1, 1) := by decide +kernel
theorem dL_law_517 : decode cL_law 517 = .ok (.aload_n 0, 1) := by decide +kernel
theorem dL_law_518 : decode cL_law 518 = .ok (.iload 4, 2) := by decide +kernel
theorem dL_law_520 : decode cL_law 520 = .ok (.iconst 1, 1) := by decide +kernel
theorem dL_law_521 : decode cL_law 521 = .ok (.iadd, 1) := by decide +kernel
theorem dL_law_522 : decode cL_law 522 = .ok (.iaload, 1) := by decide +kernel
theorem dL_law_523 : decode cL_law 523 = .ok (.aload_n 3, 1) := by decide +kernel
theorem dL_law_524 : decode cL_law 524 = .ok (.invokestatic 72, 3) := by decide +kernel
theorem dL_law_527 : decode cL_law 527 = .ok (.istore 5, 2) := by decide +kernel
theorem dL_law_529 : decode cL_law 529 = .ok (.aload_n 2, 1) := by decide +kernel
theorem dL_law_530 : decode cL_law 530 = .ok (.aload_n 0, 1) := by decide +kernel
theorem dL_law_531 : decode cL_law 531 = .ok (.iload 4, 2) := by decide +kernel
theorem dL_law_533 : decode cL_law 533 = .ok (.iconst 1, 1) := by decide +kernel
theorem dL_law_534 : decode cL_law 534 = .ok (.iadd, 1) := by decide +kernel
theorem dL_law_535 : decode cL_law 535 = .ok (.iaload, 1) := by decide +kernel
theorem dL_law_536 : decode cL_law 536 = .ok (.invokevirtual 74, 3) := by decide +kernel
theorem dL_law_539 : decode cL_law 539 = .ok (.istore 6, 2) := by decide +kernel
theorem dL_law_541 : decode cL_law 541 = .ok (.aload_n 2, 1) := by decide +kernel
theorem dL_law_542 : decode cL_law 542 = .ok (.invokevirtual 50, 3) := by decide +kernel
theorem dL_law_545 : decode cL_law 545 = .ok (.iload 5, 2) := by decide +kernel
theorem dL_law_547 : decode cL_law 547 = .ok (.if_icmp .eq 5, 3) := by decide +kernel
theorem dL_law_550 : decode cL_law 550 = .ok (.iconst 0, 1) := by decide +kernel
theorem dL_law_551 : decode cL_law 551 = .ok (.ireturn, 1) := by decide +kernel
theorem dL_law_552 : decode cL_law 552 = .ok (.iload 5, 2) := by decide +kernel
theorem dL_law_554 : decode cL_law 554 = .ok (.ifCond .ne 15, 3) := by decide +kernel
theorem dL_law_557 : decode cL_law 557 = .ok (.aload_n 3, 1) := by decide +kernel
theorem dL_law_558 : decode cL_law 558 = .ok (.iconst 0, 1) := by decide +kernel
theorem dL_law_559 : decode cL_law 559 = .ok (.laload, 1) := by decide +kernel
theorem dL_law_560 : decode cL_law 560 = .ok (.iload 6, 2) := by decide +kernel
theorem dL_law_562 : decode cL_law 562 = .ok (.i2l, 1) := by decide +kernel
theorem dL_law_563 : decode cL_law 563 = .ok (.lcmp, 1) := by decide +kernel
theorem dL_law_564 : decode cL_law 564 = .ok (.ifCond .eq 5, 3) := by decide +kernel
theorem dL_law_567 : decode cL_law 567 = .ok (.iconst 0, 1) := by decide +kernel
theorem dL_law_568 : decode cL_law 568 = .ok (.ireturn, 1) := by decide +kernel
theorem dL_law_569 : decode cL_law 569 = .ok (.goto 16, 3) := by decide +kernel
theorem dL_law_572 : decode cL_law 572 = .ok (.aload_n 1, 1) := by decide +kernel
theorem dL_law_573 : decode cL_law 573 = .ok (.invokevirtual 75, 3) := by decide +kernel
theorem dL_law_576 : decode cL_law 576 = .ok (.aload_n 2, 1) := by decide +kernel
theorem dL_law_577 : decode cL_law 577 = .ok (.invokevirtual 78, 3) := by decide +kernel
theorem dL_law_580 : decode cL_law 580 = .ok (.if_icmp .eq 5, 3) := by decide +kernel
theorem dL_law_583 : decode cL_law 583 = .ok (.iconst 0, 1) := by decide +kernel
theorem dL_law_584 : decode cL_law 584 = .ok (.ireturn, 1) := by decide +kernel
theorem dL_law_585 : decode cL_law 585 = .ok (.iinc 4 5, 3) := by decide +kernel
theorem dL_law_588 : decode cL_law 588 = .ok (.goto (-565), 3) := by decide +kernel
theorem dL_law_591 : decode cL_law 591 = .ok (.iconst 1, 1) := by decide +kernel
theorem dL_law_592 : decode cL_law 592 = .ok (.ireturn, 1) := by decide +kernel
abbrev vwCl : List vw_C := [(RX0, TX0, 4), (RX1, TX1, 1)]
/-! ===== END printed: names ===== -/
end
section
/-! The reference: names, field table, words, rows that decode each instruction (the printed names stop at its constructor) -/
def RZ : String := "RankRowsModel"
def TZ : u_T := fun k => match k with
  | 0 => ("RankRowsModel", "row", "[I", true)
  | 1 => ("RankRowsModel", "first", "[I", true)
  | 2 => ("RankRowsModel", "second", "[I", true)
  | 3 => ("RankRowsModel", "many", "I", false)
  | _ => ("RankRowsModel", "thrown", "I", false)
def tyZ : Nat → FieldType := fun k => match k with
  | 0 => .array .int
  | 1 => .array .int
  | 2 => .array .int
  | 3 => .int
  | _ => .int
abbrev wsZ0 : List Cond := u_ws RZ TZ 5
theorem nmZ : ∀ a, a < 5 → ∀ b, b < 5 → a ≠ b → (TZ a).2.1 ≠ (TZ b).2.1 := by decide +kernel
theorem tyZ_ok : ∀ k, k < 5 → parseFieldDescriptor (TZ k).2.2.1 = some (tyZ k) := by decide +kernel
/-- the classes whose objects the worlds hold -/
abbrev vwD : List vw_C := [(RX0, TX0, 4), (RZ, TZ, 5)]
abbrev cZ_init : ByteArray := prog_3_method_1_code
def yZ_init : MethodName := ⟨RZ, "<init>", "()V"⟩
abbrev cZ_thrown : ByteArray := prog_3_method_15_code
def yZ_thrown : MethodName := ⟨RZ, "thrown", "()I"⟩
abbrev cZ_behind : ByteArray := prog_3_method_16_code
def yZ_behind : MethodName := ⟨RZ, "behind", "(IIII)I"⟩
abbrev cZ_behind0 : ByteArray := prog_3_method_7_code
def yZ_behind0 : MethodName := ⟨RZ, "behind0", "(IIII)I"⟩
abbrev cZ_isWeight : ByteArray := prog_3_method_3_code
def yZ_isWeight : MethodName := ⟨RZ, "isWeight", "(I)Z"⟩
abbrev cZ_check : ByteArray := prog_3_method_2_code
def yZ_check : MethodName := ⟨RZ, "check", "(Z)V"⟩
abbrev cZ_there : ByteArray := prog_3_method_4_code
def yZ_there : MethodName := ⟨RZ, "there", "(I)V"⟩
abbrev cZ_inRow : ByteArray := prog_3_method_5_code
def yZ_inRow : MethodName := ⟨RZ, "inRow", "(I)I"⟩
abbrev cZ_open : ByteArray := prog_3_method_6_code
def yZ_open : MethodName := ⟨RZ, "open", "(III)V"⟩
abbrev cZ_before : ByteArray := prog_3_method_17_code
def yZ_before : MethodName := ⟨RZ, "before", "(III)I"⟩
abbrev cZ_before0 : ByteArray := prog_3_method_8_code
def yZ_before0 : MethodName := ⟨RZ, "before0", "(III)I"⟩
abbrev cZ_weigh : ByteArray := prog_3_method_18_code
def yZ_weigh : MethodName := ⟨RZ, "weigh", "(III)I"⟩
abbrev cZ_weigh0 : ByteArray := prog_3_method_9_code
def yZ_weigh0 : MethodName := ⟨RZ, "weigh0", "(III)I"⟩
abbrev cZ_find : ByteArray := prog_3_method_19_code
def yZ_find : MethodName := ⟨RZ, "find", "(I)I"⟩
abbrev cZ_find0 : ByteArray := prog_3_method_10_code
def yZ_find0 : MethodName := ⟨RZ, "find0", "(I)I"⟩
abbrev cZ_sum : ByteArray := prog_3_method_20_code
def yZ_sum : MethodName := ⟨RZ, "sum", "(II)I"⟩
abbrev cZ_sum0 : ByteArray := prog_3_method_11_code
def yZ_sum0 : MethodName := ⟨RZ, "sum0", "(II)I"⟩
abbrev cZ_next : ByteArray := prog_3_method_21_code
def yZ_next : MethodName := ⟨RZ, "next", "(I)I"⟩
abbrev cZ_next0 : ByteArray := prog_3_method_12_code
def yZ_next0 : MethodName := ⟨RZ, "next0", "(I)I"⟩
abbrev cZ_place : ByteArray := prog_3_method_22_code
def yZ_place : MethodName := ⟨RZ, "place", "(I)I"⟩
abbrev cZ_place0 : ByteArray := prog_3_method_13_code
def yZ_place0 : MethodName := ⟨RZ, "place0", "(I)I"⟩
abbrev cZ_entries : ByteArray := prog_3_method_23_code
def yZ_entries : MethodName := ⟨RZ, "entries", "()I"⟩
abbrev cZ_entries0 : ByteArray := prog_3_method_14_code
def yZ_entries0 : MethodName := ⟨RZ, "entries0", "()I"⟩
/-- the words that its methods need of the tables, one list for all of them -/
def wsRa : List Cond := [.initialized RZ, .instantiable RZ 5, .classLink RL 41 RZ, .arrayClass .int, .methodLink RZ 1 objectInit, .instanceMethod objectInit, .code objectInit ⟨#[0xb1]⟩ 1 none, .fieldLink RZ 9 "RankRowsModel" "row" "[I", .fieldLink RZ 13 "RankRowsModel" "first" "[I", .fieldLink RZ 16 "RankRowsModel" "second" "[I", .fieldLink RZ 22 "RankRowsModel" "many" "I", .fieldLink RZ 52 "RankRowsModel" "thrown" "I", .classLink RZ 19 "java/lang/IllegalArgumentException", .initialized "java/lang/IllegalArgumentException", .classLink RZ 26 "java/util/NoSuchElementException", .initialized "java/util/NoSuchElementException", .classLink RZ 41 "java/lang/IllegalStateException", .initialized "java/lang/IllegalStateException", .methodLink RZ 55 yZ_behind0, .methodLink RZ 29 yZ_isWeight, .methodLink RZ 33 yZ_check, .methodLink RZ 37 yZ_there, .methodLink RZ 44 yZ_inRow, .methodLink RZ 48 yZ_open, .methodLink RZ 59 yZ_before0, .methodLink RZ 63 yZ_weigh0, .methodLink RZ 66 yZ_find0, .methodLink RZ 69 yZ_sum0, .methodLink RZ 73 yZ_next0, .methodLink RZ 76 yZ_place0, .methodLink RZ 79 yZ_entries0, .methodLink RL 43 yZ_init, .methodLink RL 50 yZ_thrown, .methodLink RL 49 yZ_behind, .methodLink RL 57 yZ_before, .methodLink RL 60 yZ_weigh, .methodLink RL 64 yZ_find, .methodLink RL 68 yZ_sum, .methodLink RL 71 yZ_next, .methodLink RL 74 yZ_place, .methodLink RL 78 yZ_entries, .code yZ_init cZ_init 1 none, .instanceMethod yZ_init, .code yZ_thrown cZ_thrown 1 (some .int), .instanceMethod yZ_thrown, .selects RZ yZ_thrown yZ_thrown, .codeWith yZ_behind cZ_behind 6 (some .int) [(5, 14, 15, 19), (5, 14, 25, 26), (5, 14, 35, 41)], .instanceMethod yZ_behind, .selects RZ yZ_behind yZ_behind, .code yZ_behind0 cZ_behind0 7 (some .int), .instanceMethod yZ_behind0, .selects RZ yZ_behind0 yZ_behind0, .code yZ_isWeight cZ_isWeight 1 (some .boolean), .static yZ_isWeight, .code yZ_check cZ_check 1 none, .static yZ_check, .code yZ_there cZ_there 2 none, .instanceMethod yZ_there, .selects RZ yZ_there yZ_there, .code yZ_inRow cZ_inRow 3 (some .int), .instanceMethod yZ_inRow, .selects RZ yZ_inRow yZ_inRow, .code yZ_open cZ_open 5 none, .instanceMethod yZ_open, .selects RZ yZ_open yZ_open, .codeWith yZ_before cZ_before 5 (some .int) [(5, 12, 13, 19), (5, 12, 23, 26), (5, 12, 33, 41)], .instanceMethod yZ_before, .selects RZ yZ_before yZ_before, .code yZ_before0 cZ_before0 4 (some .int), .instanceMethod yZ_before0, .selects RZ yZ_before0 yZ_before0, .codeWith yZ_weigh cZ_weigh 5 (some .int) [(5, 12, 13, 19), (5, 12, 23, 26)], .instanceMethod yZ_weigh, .selects RZ yZ_weigh yZ_weigh, .code yZ_weigh0 cZ_weigh0 5 (some .int), .instanceMethod yZ_weigh0, .selects RZ yZ_weigh0 yZ_weigh0, .codeWith yZ_find cZ_find 3 (some .int) [(5, 10, 11, 26)], .instanceMethod yZ_find, .selects RZ yZ_find yZ_find, .code yZ_find0 cZ_find0 4 (some .int), .instanceMethod yZ_find0, .selects RZ yZ_find0 yZ_find0, .codeWith yZ_sum cZ_sum 4 (some .int) [(5, 11, 12, 19), (5, 11, 21, 26)], .instanceMethod yZ_sum, .selects RZ yZ_sum yZ_sum, .code yZ_sum0 cZ_sum0 5 (some .int), .instanceMethod yZ_sum0, .selects RZ yZ_sum0 yZ_sum0, .codeWith yZ_next cZ_next 3 (some .int) [(5, 10, 11, 26)], .instanceMethod yZ_next, .selects RZ yZ_next yZ_next, .code yZ_next0 cZ_next0 3 (some .int), .instanceMethod yZ_next0, .selects RZ yZ_next0 yZ_next0, .codeWith yZ_place cZ_place 3 (some .int) [(5, 10, 11, 26)], .instanceMethod yZ_place, .selects RZ yZ_place yZ_place, .code yZ_place0 cZ_place0 2 (some .int), .instanceMethod yZ_place0, .selects RZ yZ_place0 yZ_place0, .code yZ_entries cZ_entries 1 (some .int), .instanceMethod yZ_entries, .selects RZ yZ_entries yZ_entries, .code yZ_entries0 cZ_entries0 1 (some .int), .instanceMethod yZ_entries0, .selects RZ yZ_entries0 yZ_entries0]
def wsR : List Cond := ((wsRa ++ wsZ0) ++ (vx_at0 RZ 21 "java/lang/IllegalArgumentException" ["java/lang/RuntimeException", "java/lang/Exception"]).filter goodWord) ++ ((vx_at0 RZ 28 "java/util/NoSuchElementException" ["java/lang/RuntimeException", "java/lang/Exception"]).filter goodWord ++ (vx_at0 RZ 43 "java/lang/IllegalStateException" ["java/lang/RuntimeException", "java/lang/Exception"]).filter goodWord)
theorem wsRa_in : ∀ w ∈ wsRa, w ∈ wsR := fun _ h => List.mem_append_left _ (List.mem_append_left _ (List.mem_append_left _ h))
theorem wsZ0_in : ∀ w ∈ wsZ0, w ∈ wsR := fun _ h => List.mem_append_left _ (List.mem_append_left _ (List.mem_append_right _ h))
theorem wsR_21 : ∀ w ∈ (vx_at0 RZ 21 "java/lang/IllegalArgumentException" ["java/lang/RuntimeException", "java/lang/Exception"]).filter goodWord, w ∈ wsR := fun _ h => List.mem_append_left _ (List.mem_append_right _ h)
theorem wsR_28 : ∀ w ∈ (vx_at0 RZ 28 "java/util/NoSuchElementException" ["java/lang/RuntimeException", "java/lang/Exception"]).filter goodWord, w ∈ wsR := fun _ h => List.mem_append_right _ (List.mem_append_left _ h)
theorem wsR_43 : ∀ w ∈ (vx_at0 RZ 43 "java/lang/IllegalStateException" ["java/lang/RuntimeException", "java/lang/Exception"]).filter goodWord, w ∈ wsR := fun _ h => List.mem_append_right _ (List.mem_append_right _ h)
set_option maxRecDepth 100000 in
theorem wsRa_good : ∀ w ∈ wsRa ++ wsZ0, goodWord w = true := List.all_eq_true.mp (by decide +kernel)
theorem wsR_good : ∀ w ∈ wsR, goodWord w = true := by
  intro w h
  rcases List.mem_append.mp h with h | h
  · rcases List.mem_append.mp h with h | h
    · exact wsRa_good w h
    · exact (List.mem_filter.mp h).2
  · rcases List.mem_append.mp h with h | h
    · exact (List.mem_filter.mp h).2
    · exact (List.mem_filter.mp h).2
set_option maxRecDepth 100000 in
theorem wsRa_tbl : ∀ w ∈ wsRa ++ wsZ0, w ∈ lw_tbl := by decide +kernel
set_option maxRecDepth 100000 in
theorem wsR_t21 : ∀ w ∈ (vx_at0 RZ 21 "java/lang/IllegalArgumentException" ["java/lang/RuntimeException", "java/lang/Exception"]).filter goodWord, w ∈ lw_tbl := by decide +kernel
set_option maxRecDepth 100000 in
theorem wsR_t28 : ∀ w ∈ (vx_at0 RZ 28 "java/util/NoSuchElementException" ["java/lang/RuntimeException", "java/lang/Exception"]).filter goodWord, w ∈ lw_tbl := by decide +kernel
set_option maxRecDepth 100000 in
theorem wsR_t43 : ∀ w ∈ (vx_at0 RZ 43 "java/lang/IllegalStateException" ["java/lang/RuntimeException", "java/lang/Exception"]).filter goodWord, w ∈ lw_tbl := by decide +kernel
theorem wsR_tbl : ∀ w ∈ wsR, w ∈ lw_tbl := by
  intro w h
  rcases List.mem_append.mp h with h | h
  · rcases List.mem_append.mp h with h | h
    · exact wsRa_tbl w h
    · exact wsR_t21 w h
  · rcases List.mem_append.mp h with h | h
    · exact wsR_t28 w h
    · exact wsR_t43 w h
theorem zg_app {c d : Cond} {L : List Cond} (hL : ∀ w ∈ L, w ∈ wsRa) (hd : d ∈ wsRa) : GoodIn (c :: wsR) (L ++ d :: wsR) := by
  intro w h
  have ok : ∀ w ∈ wsR, w ∈ c :: wsR ∧ ((w.onTables && w.keeps) = true ∨ ∃ ty, w = .arrayClass ty) := fun w h => ⟨List.mem_cons_of_mem _ h, good_of_word (wsR_good w h)⟩
  rcases List.mem_append.mp h with h | h
  · exact ok w (wsRa_in w (hL w h))
  · rcases List.mem_cons.mp h with h | h
    · rw [h]
      exact ok d (wsRa_in d hd)
    · exact ok w h
/-- the law's words: the printed ones, and the reference's -/
def wsL2 : List Cond := wsL_law ++ wsR
theorem wsL2_in : ∀ w ∈ wsL2, w ∈ lw_tbl := fun w h => (List.mem_append.mp h).elim (wsL_law_in w) (wsR_tbl w)
theorem wsL2_1 : ∀ w ∈ wsL_law, w ∈ wsL2 := fun _ h => List.mem_append_left _ h
theorem zg_law {L : List Cond} (h : GoodIn wsL_law L) : GoodIn wsL2 L := fun w hw => ⟨wsL2_1 w (h w hw).1, (h w hw).2⟩
theorem zg_l2 {d : Cond} {L : List Cond} (hL : ∀ w ∈ L, w ∈ wsRa) (hd : d ∈ wsRa) : GoodIn wsL2 (L ++ d :: wsR) := by
  intro w h
  have ok : ∀ w ∈ wsR, w ∈ wsL2 ∧ ((w.onTables && w.keeps) = true ∨ ∃ ty, w = .arrayClass ty) := fun w h => ⟨List.mem_append_right _ h, good_of_word (wsR_good w h)⟩
  rcases List.mem_append.mp h with h | h
  · exact ok w (wsRa_in w (hL w h))
  · rcases List.mem_cons.mp h with h | h
    · rw [h]
      exact ok d (wsRa_in d hd)
    · exact ok w h
def wsZ_init : List Cond := .code yZ_init cZ_init 1 none :: wsR
def wsZ_thrown : List Cond := .code yZ_thrown cZ_thrown 1 (some .int) :: wsR
def wsZ_behind : List Cond := .codeWith yZ_behind cZ_behind 6 (some .int) [(5, 14, 15, 19), (5, 14, 25, 26), (5, 14, 35, 41)] :: wsR
def wsZ_behind0 : List Cond := .code yZ_behind0 cZ_behind0 7 (some .int) :: wsR
def wsZ_isWeight : List Cond := .code yZ_isWeight cZ_isWeight 1 (some .boolean) :: wsR
def wsZ_check : List Cond := .code yZ_check cZ_check 1 none :: wsR
def wsZ_there : List Cond := .code yZ_there cZ_there 2 none :: wsR
def wsZ_inRow : List Cond := .code yZ_inRow cZ_inRow 3 (some .int) :: wsR
def wsZ_open : List Cond := .code yZ_open cZ_open 5 none :: wsR
def wsZ_before : List Cond := .codeWith yZ_before cZ_before 5 (some .int) [(5, 12, 13, 19), (5, 12, 23, 26), (5, 12, 33, 41)] :: wsR
def wsZ_before0 : List Cond := .code yZ_before0 cZ_before0 4 (some .int) :: wsR
def wsZ_weigh : List Cond := .codeWith yZ_weigh cZ_weigh 5 (some .int) [(5, 12, 13, 19), (5, 12, 23, 26)] :: wsR
def wsZ_weigh0 : List Cond := .code yZ_weigh0 cZ_weigh0 5 (some .int) :: wsR
def wsZ_find : List Cond := .codeWith yZ_find cZ_find 3 (some .int) [(5, 10, 11, 26)] :: wsR
def wsZ_find0 : List Cond := .code yZ_find0 cZ_find0 4 (some .int) :: wsR
def wsZ_sum : List Cond := .codeWith yZ_sum cZ_sum 4 (some .int) [(5, 11, 12, 19), (5, 11, 21, 26)] :: wsR
def wsZ_sum0 : List Cond := .code yZ_sum0 cZ_sum0 5 (some .int) :: wsR
def wsZ_next : List Cond := .codeWith yZ_next cZ_next 3 (some .int) [(5, 10, 11, 26)] :: wsR
def wsZ_next0 : List Cond := .code yZ_next0 cZ_next0 3 (some .int) :: wsR
def wsZ_place : List Cond := .codeWith yZ_place cZ_place 3 (some .int) [(5, 10, 11, 26)] :: wsR
def wsZ_place0 : List Cond := .code yZ_place0 cZ_place0 2 (some .int) :: wsR
def wsZ_entries : List Cond := .code yZ_entries cZ_entries 1 (some .int) :: wsR
def wsZ_entries0 : List Cond := .code yZ_entries0 cZ_entries0 1 (some .int) :: wsR
theorem dZ_init_0 : decode cZ_init 0 = .ok (.aload_n 0, 1) := by decide +kernel
theorem dZ_init_1 : decode cZ_init 1 = .ok (.invokespecial 1, 3) := by decide +kernel
theorem dZ_init_4 : decode cZ_init 4 = .ok (.aload_n 0, 1) := by decide +kernel
theorem dZ_init_5 : decode cZ_init 5 = .ok (.sipush 4000, 3) := by decide +kernel
theorem dZ_init_8 : decode cZ_init 8 = .ok (.newarray .int, 2) := by decide +kernel
theorem dZ_init_10 : decode cZ_init 10 = .ok (.putfield 9, 3) := by decide +kernel
theorem dZ_init_13 : decode cZ_init 13 = .ok (.aload_n 0, 1) := by decide +kernel
theorem dZ_init_14 : decode cZ_init 14 = .ok (.sipush 4000, 3) := by decide +kernel
theorem dZ_init_17 : decode cZ_init 17 = .ok (.newarray .int, 2) := by decide +kernel
theorem dZ_init_19 : decode cZ_init 19 = .ok (.putfield 13, 3) := by decide +kernel
theorem dZ_init_22 : decode cZ_init 22 = .ok (.aload_n 0, 1) := by decide +kernel
theorem dZ_init_23 : decode cZ_init 23 = .ok (.sipush 4000, 3) := by decide +kernel
theorem dZ_init_26 : decode cZ_init 26 = .ok (.newarray .int, 2) := by decide +kernel
theorem dZ_init_28 : decode cZ_init 28 = .ok (.putfield 16, 3) := by decide +kernel
theorem dZ_init_31 : decode cZ_init 31 = .ok (.return_, 1) := by decide +kernel
theorem dZ_check_0 : decode cZ_check 0 = .ok (.iload_n 0, 1) := by decide +kernel
theorem dZ_check_1 : decode cZ_check 1 = .ok (.ifCond .ne 11, 3) := by decide +kernel
theorem dZ_check_4 : decode cZ_check 4 = .ok (.new 19, 3) := by decide +kernel
theorem dZ_check_7 : decode cZ_check 7 = .ok (.dup, 1) := by decide +kernel
theorem dZ_check_8 : decode cZ_check 8 = .ok (.invokespecial 21, 3) := by decide +kernel
theorem dZ_check_11 : decode cZ_check 11 = .ok (.athrow, 1) := by decide +kernel
theorem dZ_check_12 : decode cZ_check 12 = .ok (.return_, 1) := by decide +kernel
theorem dZ_isWeight_0 : decode cZ_isWeight 0 = .ok (.iload_n 0, 1) := by decide +kernel
theorem dZ_isWeight_1 : decode cZ_isWeight 1 = .ok (.ifCond .lt 14, 3) := by decide +kernel
theorem dZ_isWeight_4 : decode cZ_isWeight 4 = .ok (.iload_n 0, 1) := by decide +kernel
theorem dZ_isWeight_5 : decode cZ_isWeight 5 = .ok (.sipush 1000, 3) := by decide +kernel
theorem dZ_isWeight_8 : decode cZ_isWeight 8 = .ok (.if_icmp .gt 7, 3) := by decide +kernel
theorem dZ_isWeight_11 : decode cZ_isWeight 11 = .ok (.iconst 1, 1) := by decide +kernel
theorem dZ_isWeight_12 : decode cZ_isWeight 12 = .ok (.goto 4, 3) := by decide +kernel
theorem dZ_isWeight_15 : decode cZ_isWeight 15 = .ok (.iconst 0, 1) := by decide +kernel
theorem dZ_isWeight_16 : decode cZ_isWeight 16 = .ok (.ireturn, 1) := by decide +kernel
theorem dZ_there_0 : decode cZ_there 0 = .ok (.iload_n 1, 1) := by decide +kernel
theorem dZ_there_1 : decode cZ_there 1 = .ok (.ifCond .lt 11, 3) := by decide +kernel
theorem dZ_there_4 : decode cZ_there 4 = .ok (.iload_n 1, 1) := by decide +kernel
theorem dZ_there_5 : decode cZ_there 5 = .ok (.aload_n 0, 1) := by decide +kernel
theorem dZ_there_6 : decode cZ_there 6 = .ok (.getfield 22, 3) := by decide +kernel
theorem dZ_there_9 : decode cZ_there 9 = .ok (.if_icmp .lt 11, 3) := by decide +kernel
theorem dZ_there_12 : decode cZ_there 12 = .ok (.new 26, 3) := by decide +kernel
theorem dZ_there_15 : decode cZ_there 15 = .ok (.dup, 1) := by decide +kernel
theorem dZ_there_16 : decode cZ_there 16 = .ok (.invokespecial 28, 3) := by decide +kernel
theorem dZ_there_19 : decode cZ_there 19 = .ok (.athrow, 1) := by decide +kernel
theorem dZ_there_20 : decode cZ_there 20 = .ok (.return_, 1) := by decide +kernel
theorem dZ_inRow_0 : decode cZ_inRow 0 = .ok (.iconst 0, 1) := by decide +kernel
theorem dZ_inRow_1 : decode cZ_inRow 1 = .ok (.istore_n 2, 1) := by decide +kernel
theorem dZ_inRow_2 : decode cZ_inRow 2 = .ok (.aload_n 0, 1) := by decide +kernel
theorem dZ_inRow_3 : decode cZ_inRow 3 = .ok (.getfield 9, 3) := by decide +kernel
theorem dZ_inRow_6 : decode cZ_inRow 6 = .ok (.iload_n 2, 1) := by decide +kernel
theorem dZ_inRow_7 : decode cZ_inRow 7 = .ok (.iaload, 1) := by decide +kernel
theorem dZ_inRow_8 : decode cZ_inRow 8 = .ok (.iload_n 1, 1) := by decide +kernel
theorem dZ_inRow_9 : decode cZ_inRow 9 = .ok (.if_icmp .eq 9, 3) := by decide +kernel
theorem dZ_inRow_12 : decode cZ_inRow 12 = .ok (.iinc 2 1, 3) := by decide +kernel
theorem dZ_inRow_15 : decode cZ_inRow 15 = .ok (.goto (-13), 3) := by decide +kernel
theorem dZ_inRow_18 : decode cZ_inRow 18 = .ok (.iload_n 2, 1) := by decide +kernel
theorem dZ_inRow_19 : decode cZ_inRow 19 = .ok (.ireturn, 1) := by decide +kernel
theorem dZ_open_0 : decode cZ_open 0 = .ok (.aload_n 0, 1) := by decide +kernel
theorem dZ_open_1 : decode cZ_open 1 = .ok (.getfield 22, 3) := by decide +kernel
theorem dZ_open_4 : decode cZ_open 4 = .ok (.istore 4, 2) := by decide +kernel
theorem dZ_open_6 : decode cZ_open 6 = .ok (.iload 4, 2) := by decide +kernel
theorem dZ_open_8 : decode cZ_open 8 = .ok (.iload_n 1, 1) := by decide +kernel
theorem dZ_open_9 : decode cZ_open 9 = .ok (.if_icmp .le 25, 3) := by decide +kernel
theorem dZ_open_12 : decode cZ_open 12 = .ok (.aload_n 0, 1) := by decide +kernel
theorem dZ_open_13 : decode cZ_open 13 = .ok (.getfield 9, 3) := by decide +kernel
theorem dZ_open_16 : decode cZ_open 16 = .ok (.iload 4, 2) := by decide +kernel
theorem dZ_open_18 : decode cZ_open 18 = .ok (.aload_n 0, 1) := by decide +kernel
theorem dZ_open_19 : decode cZ_open 19 = .ok (.getfield 9, 3) := by decide +kernel
theorem dZ_open_22 : decode cZ_open 22 = .ok (.iload 4, 2) := by decide +kernel
theorem dZ_open_24 : decode cZ_open 24 = .ok (.iconst 1, 1) := by decide +kernel
theorem dZ_open_25 : decode cZ_open 25 = .ok (.isub, 1) := by decide +kernel
theorem dZ_open_26 : decode cZ_open 26 = .ok (.iaload, 1) := by decide +kernel
theorem dZ_open_27 : decode cZ_open 27 = .ok (.iastore, 1) := by decide +kernel
theorem dZ_open_28 : decode cZ_open 28 = .ok (.iinc 4 (-1), 3) := by decide +kernel
theorem dZ_open_31 : decode cZ_open 31 = .ok (.goto (-25), 3) := by decide +kernel
theorem dZ_open_34 : decode cZ_open 34 = .ok (.aload_n 0, 1) := by decide +kernel
theorem dZ_open_35 : decode cZ_open 35 = .ok (.getfield 9, 3) := by decide +kernel
theorem dZ_open_38 : decode cZ_open 38 = .ok (.iload_n 1, 1) := by decide +kernel
theorem dZ_open_39 : decode cZ_open 39 = .ok (.aload_n 0, 1) := by decide +kernel
theorem dZ_open_40 : decode cZ_open 40 = .ok (.getfield 22, 3) := by decide +kernel
theorem dZ_open_43 : decode cZ_open 43 = .ok (.iastore, 1) := by decide +kernel
theorem dZ_open_44 : decode cZ_open 44 = .ok (.aload_n 0, 1) := by decide +kernel
theorem dZ_open_45 : decode cZ_open 45 = .ok (.getfield 13, 3) := by decide +kernel
theorem dZ_open_48 : decode cZ_open 48 = .ok (.aload_n 0, 1) := by decide +kernel
theorem dZ_open_49 : decode cZ_open 49 = .ok (.getfield 22, 3) := by decide +kernel
theorem dZ_open_52 : decode cZ_open 52 = .ok (.iload_n 2, 1) := by decide +kernel
theorem dZ_open_53 : decode cZ_open 53 = .ok (.iastore, 1) := by decide +kernel
theorem dZ_open_54 : decode cZ_open 54 = .ok (.aload_n 0, 1) := by decide +kernel
theorem dZ_open_55 : decode cZ_open 55 = .ok (.getfield 16, 3) := by decide +kernel
theorem dZ_open_58 : decode cZ_open 58 = .ok (.aload_n 0, 1) := by decide +kernel
theorem dZ_open_59 : decode cZ_open 59 = .ok (.getfield 22, 3) := by decide +kernel
theorem dZ_open_62 : decode cZ_open 62 = .ok (.iload_n 3, 1) := by decide +kernel
theorem dZ_open_63 : decode cZ_open 63 = .ok (.iastore, 1) := by decide +kernel
theorem dZ_open_64 : decode cZ_open 64 = .ok (.aload_n 0, 1) := by decide +kernel
theorem dZ_open_65 : decode cZ_open 65 = .ok (.dup, 1) := by decide +kernel
theorem dZ_open_66 : decode cZ_open 66 = .ok (.getfield 22, 3) := by decide +kernel
theorem dZ_open_69 : decode cZ_open 69 = .ok (.iconst 1, 1) := by decide +kernel
theorem dZ_open_70 : decode cZ_open 70 = .ok (.iadd, 1) := by decide +kernel
theorem dZ_open_71 : decode cZ_open 71 = .ok (.putfield 22, 3) := by decide +kernel
theorem dZ_open_74 : decode cZ_open 74 = .ok (.return_, 1) := by decide +kernel
theorem dZ_behind0_0 : decode cZ_behind0 0 = .ok (.iload_n 2, 1) := by decide +kernel
theorem dZ_behind0_1 : decode cZ_behind0 1 = .ok (.iconst 1, 1) := by decide +kernel
theorem dZ_behind0_2 : decode cZ_behind0 2 = .ok (.if_icmp .lt 29, 3) := by decide +kernel
theorem dZ_behind0_5 : decode cZ_behind0 5 = .ok (.iload_n 2, 1) := by decide +kernel
theorem dZ_behind0_6 : decode cZ_behind0 6 = .ok (.sipush 200, 3) := by decide +kernel
theorem dZ_behind0_9 : decode cZ_behind0 9 = .ok (.if_icmp .gt 22, 3) := by decide +kernel
theorem dZ_behind0_12 : decode cZ_behind0 12 = .ok (.iload_n 3, 1) := by decide +kernel
theorem dZ_behind0_13 : decode cZ_behind0 13 = .ok (.invokestatic 29, 3) := by decide +kernel
theorem dZ_behind0_16 : decode cZ_behind0 16 = .ok (.ifCond .eq 15, 3) := by decide +kernel
theorem dZ_behind0_19 : decode cZ_behind0 19 = .ok (.iload 4, 2) := by decide +kernel
theorem dZ_behind0_21 : decode cZ_behind0 21 = .ok (.invokestatic 29, 3) := by decide +kernel
theorem dZ_behind0_24 : decode cZ_behind0 24 = .ok (.ifCond .eq 7, 3) := by decide +kernel
theorem dZ_behind0_27 : decode cZ_behind0 27 = .ok (.iconst 1, 1) := by decide +kernel
theorem dZ_behind0_28 : decode cZ_behind0 28 = .ok (.goto 4, 3) := by decide +kernel
theorem dZ_behind0_31 : decode cZ_behind0 31 = .ok (.iconst 0, 1) := by decide +kernel
theorem dZ_behind0_32 : decode cZ_behind0 32 = .ok (.invokestatic 33, 3) := by decide +kernel
theorem dZ_behind0_35 : decode cZ_behind0 35 = .ok (.iload_n 1, 1) := by decide +kernel
theorem dZ_behind0_36 : decode cZ_behind0 36 = .ok (.iconst (-1), 1) := by decide +kernel
theorem dZ_behind0_37 : decode cZ_behind0 37 = .ok (.if_icmp .eq 8, 3) := by decide +kernel
theorem dZ_behind0_40 : decode cZ_behind0 40 = .ok (.aload_n 0, 1) := by decide +kernel
theorem dZ_behind0_41 : decode cZ_behind0 41 = .ok (.iload_n 1, 1) := by decide +kernel
theorem dZ_behind0_42 : decode cZ_behind0 42 = .ok (.invokevirtual 37, 3) := by decide +kernel
theorem dZ_behind0_45 : decode cZ_behind0 45 = .ok (.aload_n 0, 1) := by decide +kernel
theorem dZ_behind0_46 : decode cZ_behind0 46 = .ok (.getfield 22, 3) := by decide +kernel
theorem dZ_behind0_49 : decode cZ_behind0 49 = .ok (.iload_n 2, 1) := by decide +kernel
theorem dZ_behind0_50 : decode cZ_behind0 50 = .ok (.iadd, 1) := by decide +kernel
theorem dZ_behind0_51 : decode cZ_behind0 51 = .ok (.sipush 4000, 3) := by decide +kernel
theorem dZ_behind0_54 : decode cZ_behind0 54 = .ok (.if_icmp .le 11, 3) := by decide +kernel
theorem dZ_behind0_57 : decode cZ_behind0 57 = .ok (.new 41, 3) := by decide +kernel
theorem dZ_behind0_60 : decode cZ_behind0 60 = .ok (.dup, 1) := by decide +kernel
theorem dZ_behind0_61 : decode cZ_behind0 61 = .ok (.invokespecial 43, 3) := by decide +kernel
theorem dZ_behind0_64 : decode cZ_behind0 64 = .ok (.athrow, 1) := by decide +kernel
theorem dZ_behind0_65 : decode cZ_behind0 65 = .ok (.iload_n 1, 1) := by decide +kernel
theorem dZ_behind0_66 : decode cZ_behind0 66 = .ok (.ifCond .ge 7, 3) := by decide +kernel
theorem dZ_behind0_69 : decode cZ_behind0 69 = .ok (.iconst 0, 1) := by decide +kernel
theorem dZ_behind0_70 : decode cZ_behind0 70 = .ok (.goto 10, 3) := by decide +kernel
theorem dZ_behind0_73 : decode cZ_behind0 73 = .ok (.aload_n 0, 1) := by decide +kernel
theorem dZ_behind0_74 : decode cZ_behind0 74 = .ok (.iload_n 1, 1) := by decide +kernel
theorem dZ_behind0_75 : decode cZ_behind0 75 = .ok (.invokevirtual 44, 3) := by decide +kernel
theorem dZ_behind0_78 : decode cZ_behind0 78 = .ok (.iconst 1, 1) := by decide +kernel
theorem dZ_behind0_79 : decode cZ_behind0 79 = .ok (.iadd, 1) := by decide +kernel
theorem dZ_behind0_80 : decode cZ_behind0 80 = .ok (.istore 5, 2) := by decide +kernel
theorem dZ_behind0_82 : decode cZ_behind0 82 = .ok (.iconst 0, 1) := by decide +kernel
theorem dZ_behind0_83 : decode cZ_behind0 83 = .ok (.istore 6, 2) := by decide +kernel
theorem dZ_behind0_85 : decode cZ_behind0 85 = .ok (.iload 6, 2) := by decide +kernel
theorem dZ_behind0_87 : decode cZ_behind0 87 = .ok (.iload_n 2, 1) := by decide +kernel
theorem dZ_behind0_88 : decode cZ_behind0 88 = .ok (.if_icmp .ge 21, 3) := by decide +kernel
theorem dZ_behind0_91 : decode cZ_behind0 91 = .ok (.aload_n 0, 1) := by decide +kernel
theorem dZ_behind0_92 : decode cZ_behind0 92 = .ok (.iload 5, 2) := by decide +kernel
theorem dZ_behind0_94 : decode cZ_behind0 94 = .ok (.iload 6, 2) := by decide +kernel
theorem dZ_behind0_96 : decode cZ_behind0 96 = .ok (.iadd, 1) := by decide +kernel
theorem dZ_behind0_97 : decode cZ_behind0 97 = .ok (.iload_n 3, 1) := by decide +kernel
theorem dZ_behind0_98 : decode cZ_behind0 98 = .ok (.iload 4, 2) := by decide +kernel
theorem dZ_behind0_100 : decode cZ_behind0 100 = .ok (.invokevirtual 48, 3) := by decide +kernel
theorem dZ_behind0_103 : decode cZ_behind0 103 = .ok (.iinc 6 1, 3) := by decide +kernel
theorem dZ_behind0_106 : decode cZ_behind0 106 = .ok (.goto (-21), 3) := by decide +kernel
theorem dZ_behind0_109 : decode cZ_behind0 109 = .ok (.aload_n 0, 1) := by decide +kernel
theorem dZ_behind0_110 : decode cZ_behind0 110 = .ok (.getfield 22, 3) := by decide +kernel
theorem dZ_behind0_113 : decode cZ_behind0 113 = .ok (.iconst 1, 1) := by decide +kernel
theorem dZ_behind0_114 : decode cZ_behind0 114 = .ok (.isub, 1) := by decide +kernel
theorem dZ_behind0_115 : decode cZ_behind0 115 = .ok (.ireturn, 1) := by decide +kernel
theorem dZ_before0_0 : decode cZ_before0 0 = .ok (.iload_n 2, 1) := by decide +kernel
theorem dZ_before0_1 : decode cZ_before0 1 = .ok (.invokestatic 29, 3) := by decide +kernel
theorem dZ_before0_4 : decode cZ_before0 4 = .ok (.ifCond .eq 14, 3) := by decide +kernel
theorem dZ_before0_7 : decode cZ_before0 7 = .ok (.iload_n 3, 1) := by decide +kernel
theorem dZ_before0_8 : decode cZ_before0 8 = .ok (.invokestatic 29, 3) := by decide +kernel
theorem dZ_before0_11 : decode cZ_before0 11 = .ok (.ifCond .eq 7, 3) := by decide +kernel
theorem dZ_before0_14 : decode cZ_before0 14 = .ok (.iconst 1, 1) := by decide +kernel
theorem dZ_before0_15 : decode cZ_before0 15 = .ok (.goto 4, 3) := by decide +kernel
theorem dZ_before0_18 : decode cZ_before0 18 = .ok (.iconst 0, 1) := by decide +kernel
theorem dZ_before0_19 : decode cZ_before0 19 = .ok (.invokestatic 33, 3) := by decide +kernel
theorem dZ_before0_22 : decode cZ_before0 22 = .ok (.aload_n 0, 1) := by decide +kernel
theorem dZ_before0_23 : decode cZ_before0 23 = .ok (.iload_n 1, 1) := by decide +kernel
theorem dZ_before0_24 : decode cZ_before0 24 = .ok (.invokevirtual 37, 3) := by decide +kernel
theorem dZ_before0_27 : decode cZ_before0 27 = .ok (.aload_n 0, 1) := by decide +kernel
theorem dZ_before0_28 : decode cZ_before0 28 = .ok (.getfield 22, 3) := by decide +kernel
theorem dZ_before0_31 : decode cZ_before0 31 = .ok (.sipush 4000, 3) := by decide +kernel
theorem dZ_before0_34 : decode cZ_before0 34 = .ok (.if_icmp .ne 11, 3) := by decide +kernel
theorem dZ_before0_37 : decode cZ_before0 37 = .ok (.new 41, 3) := by decide +kernel
theorem dZ_before0_40 : decode cZ_before0 40 = .ok (.dup, 1) := by decide +kernel
theorem dZ_before0_41 : decode cZ_before0 41 = .ok (.invokespecial 43, 3) := by decide +kernel
theorem dZ_before0_44 : decode cZ_before0 44 = .ok (.athrow, 1) := by decide +kernel
theorem dZ_before0_45 : decode cZ_before0 45 = .ok (.aload_n 0, 1) := by decide +kernel
theorem dZ_before0_46 : decode cZ_before0 46 = .ok (.aload_n 0, 1) := by decide +kernel
theorem dZ_before0_47 : decode cZ_before0 47 = .ok (.iload_n 1, 1) := by decide +kernel
theorem dZ_before0_48 : decode cZ_before0 48 = .ok (.invokevirtual 44, 3) := by decide +kernel
theorem dZ_before0_51 : decode cZ_before0 51 = .ok (.iload_n 2, 1) := by decide +kernel
theorem dZ_before0_52 : decode cZ_before0 52 = .ok (.iload_n 3, 1) := by decide +kernel
theorem dZ_before0_53 : decode cZ_before0 53 = .ok (.invokevirtual 48, 3) := by decide +kernel
theorem dZ_before0_56 : decode cZ_before0 56 = .ok (.aload_n 0, 1) := by decide +kernel
theorem dZ_before0_57 : decode cZ_before0 57 = .ok (.getfield 22, 3) := by decide +kernel
theorem dZ_before0_60 : decode cZ_before0 60 = .ok (.iconst 1, 1) := by decide +kernel
theorem dZ_before0_61 : decode cZ_before0 61 = .ok (.isub, 1) := by decide +kernel
theorem dZ_before0_62 : decode cZ_before0 62 = .ok (.ireturn, 1) := by decide +kernel
theorem dZ_weigh0_0 : decode cZ_weigh0 0 = .ok (.iload_n 2, 1) := by decide +kernel
theorem dZ_weigh0_1 : decode cZ_weigh0 1 = .ok (.invokestatic 29, 3) := by decide +kernel
theorem dZ_weigh0_4 : decode cZ_weigh0 4 = .ok (.ifCond .eq 14, 3) := by decide +kernel
theorem dZ_weigh0_7 : decode cZ_weigh0 7 = .ok (.iload_n 3, 1) := by decide +kernel
theorem dZ_weigh0_8 : decode cZ_weigh0 8 = .ok (.invokestatic 29, 3) := by decide +kernel
theorem dZ_weigh0_11 : decode cZ_weigh0 11 = .ok (.ifCond .eq 7, 3) := by decide +kernel
theorem dZ_weigh0_14 : decode cZ_weigh0 14 = .ok (.iconst 1, 1) := by decide +kernel
theorem dZ_weigh0_15 : decode cZ_weigh0 15 = .ok (.goto 4, 3) := by decide +kernel
theorem dZ_weigh0_18 : decode cZ_weigh0 18 = .ok (.iconst 0, 1) := by decide +kernel
theorem dZ_weigh0_19 : decode cZ_weigh0 19 = .ok (.invokestatic 33, 3) := by decide +kernel
theorem dZ_weigh0_22 : decode cZ_weigh0 22 = .ok (.aload_n 0, 1) := by decide +kernel
theorem dZ_weigh0_23 : decode cZ_weigh0 23 = .ok (.iload_n 1, 1) := by decide +kernel
theorem dZ_weigh0_24 : decode cZ_weigh0 24 = .ok (.invokevirtual 37, 3) := by decide +kernel
theorem dZ_weigh0_27 : decode cZ_weigh0 27 = .ok (.aload_n 0, 1) := by decide +kernel
theorem dZ_weigh0_28 : decode cZ_weigh0 28 = .ok (.getfield 13, 3) := by decide +kernel
theorem dZ_weigh0_31 : decode cZ_weigh0 31 = .ok (.iload_n 1, 1) := by decide +kernel
theorem dZ_weigh0_32 : decode cZ_weigh0 32 = .ok (.iaload, 1) := by decide +kernel
theorem dZ_weigh0_33 : decode cZ_weigh0 33 = .ok (.istore 4, 2) := by decide +kernel
theorem dZ_weigh0_35 : decode cZ_weigh0 35 = .ok (.aload_n 0, 1) := by decide +kernel
theorem dZ_weigh0_36 : decode cZ_weigh0 36 = .ok (.getfield 13, 3) := by decide +kernel
theorem dZ_weigh0_39 : decode cZ_weigh0 39 = .ok (.iload_n 1, 1) := by decide +kernel
theorem dZ_weigh0_40 : decode cZ_weigh0 40 = .ok (.iload_n 2, 1) := by decide +kernel
theorem dZ_weigh0_41 : decode cZ_weigh0 41 = .ok (.iastore, 1) := by decide +kernel
theorem dZ_weigh0_42 : decode cZ_weigh0 42 = .ok (.aload_n 0, 1) := by decide +kernel
theorem dZ_weigh0_43 : decode cZ_weigh0 43 = .ok (.getfield 16, 3) := by decide +kernel
theorem dZ_weigh0_46 : decode cZ_weigh0 46 = .ok (.iload_n 1, 1) := by decide +kernel
theorem dZ_weigh0_47 : decode cZ_weigh0 47 = .ok (.iload_n 3, 1) := by decide +kernel
theorem dZ_weigh0_48 : decode cZ_weigh0 48 = .ok (.iastore, 1) := by decide +kernel
theorem dZ_weigh0_49 : decode cZ_weigh0 49 = .ok (.iload 4, 2) := by decide +kernel
theorem dZ_weigh0_51 : decode cZ_weigh0 51 = .ok (.ireturn, 1) := by decide +kernel
theorem dZ_find0_0 : decode cZ_find0 0 = .ok (.iconst 0, 1) := by decide +kernel
theorem dZ_find0_1 : decode cZ_find0 1 = .ok (.istore_n 2, 1) := by decide +kernel
theorem dZ_find0_2 : decode cZ_find0 2 = .ok (.iconst 0, 1) := by decide +kernel
theorem dZ_find0_3 : decode cZ_find0 3 = .ok (.istore_n 3, 1) := by decide +kernel
theorem dZ_find0_4 : decode cZ_find0 4 = .ok (.iload_n 3, 1) := by decide +kernel
theorem dZ_find0_5 : decode cZ_find0 5 = .ok (.aload_n 0, 1) := by decide +kernel
theorem dZ_find0_6 : decode cZ_find0 6 = .ok (.getfield 22, 3) := by decide +kernel
theorem dZ_find0_9 : decode cZ_find0 9 = .ok (.if_icmp .ge 39, 3) := by decide +kernel
theorem dZ_find0_12 : decode cZ_find0 12 = .ok (.iload_n 1, 1) := by decide +kernel
theorem dZ_find0_13 : decode cZ_find0 13 = .ok (.ifCond .lt 35, 3) := by decide +kernel
theorem dZ_find0_16 : decode cZ_find0 16 = .ok (.iload_n 2, 1) := by decide +kernel
theorem dZ_find0_17 : decode cZ_find0 17 = .ok (.aload_n 0, 1) := by decide +kernel
theorem dZ_find0_18 : decode cZ_find0 18 = .ok (.getfield 13, 3) := by decide +kernel
theorem dZ_find0_21 : decode cZ_find0 21 = .ok (.aload_n 0, 1) := by decide +kernel
theorem dZ_find0_22 : decode cZ_find0 22 = .ok (.getfield 9, 3) := by decide +kernel
theorem dZ_find0_25 : decode cZ_find0 25 = .ok (.iload_n 3, 1) := by decide +kernel
theorem dZ_find0_26 : decode cZ_find0 26 = .ok (.iaload, 1) := by decide +kernel
theorem dZ_find0_27 : decode cZ_find0 27 = .ok (.iaload, 1) := by decide +kernel
theorem dZ_find0_28 : decode cZ_find0 28 = .ok (.iadd, 1) := by decide +kernel
theorem dZ_find0_29 : decode cZ_find0 29 = .ok (.istore_n 2, 1) := by decide +kernel
theorem dZ_find0_30 : decode cZ_find0 30 = .ok (.iload_n 2, 1) := by decide +kernel
theorem dZ_find0_31 : decode cZ_find0 31 = .ok (.iload_n 1, 1) := by decide +kernel
theorem dZ_find0_32 : decode cZ_find0 32 = .ok (.if_icmp .le 10, 3) := by decide +kernel
theorem dZ_find0_35 : decode cZ_find0 35 = .ok (.aload_n 0, 1) := by decide +kernel
theorem dZ_find0_36 : decode cZ_find0 36 = .ok (.getfield 9, 3) := by decide +kernel
theorem dZ_find0_39 : decode cZ_find0 39 = .ok (.iload_n 3, 1) := by decide +kernel
theorem dZ_find0_40 : decode cZ_find0 40 = .ok (.iaload, 1) := by decide +kernel
theorem dZ_find0_41 : decode cZ_find0 41 = .ok (.ireturn, 1) := by decide +kernel
theorem dZ_find0_42 : decode cZ_find0 42 = .ok (.iinc 3 1, 3) := by decide +kernel
theorem dZ_find0_45 : decode cZ_find0 45 = .ok (.goto (-41), 3) := by decide +kernel
theorem dZ_find0_48 : decode cZ_find0 48 = .ok (.new 26, 3) := by decide +kernel
theorem dZ_find0_51 : decode cZ_find0 51 = .ok (.dup, 1) := by decide +kernel
theorem dZ_find0_52 : decode cZ_find0 52 = .ok (.invokespecial 28, 3) := by decide +kernel
theorem dZ_find0_55 : decode cZ_find0 55 = .ok (.athrow, 1) := by decide +kernel
theorem dZ_sum0_0 : decode cZ_sum0 0 = .ok (.iload_n 2, 1) := by decide +kernel
theorem dZ_sum0_1 : decode cZ_sum0 1 = .ok (.ifCond .eq 8, 3) := by decide +kernel
theorem dZ_sum0_4 : decode cZ_sum0 4 = .ok (.iload_n 2, 1) := by decide +kernel
theorem dZ_sum0_5 : decode cZ_sum0 5 = .ok (.iconst 1, 1) := by decide +kernel
theorem dZ_sum0_6 : decode cZ_sum0 6 = .ok (.if_icmp .ne 7, 3) := by decide +kernel
theorem dZ_sum0_9 : decode cZ_sum0 9 = .ok (.iconst 1, 1) := by decide +kernel
theorem dZ_sum0_10 : decode cZ_sum0 10 = .ok (.goto 4, 3) := by decide +kernel
theorem dZ_sum0_13 : decode cZ_sum0 13 = .ok (.iconst 0, 1) := by decide +kernel
theorem dZ_sum0_14 : decode cZ_sum0 14 = .ok (.invokestatic 33, 3) := by decide +kernel
theorem dZ_sum0_17 : decode cZ_sum0 17 = .ok (.iload_n 1, 1) := by decide +kernel
theorem dZ_sum0_18 : decode cZ_sum0 18 = .ok (.iconst (-1), 1) := by decide +kernel
theorem dZ_sum0_19 : decode cZ_sum0 19 = .ok (.if_icmp .eq 8, 3) := by decide +kernel
theorem dZ_sum0_22 : decode cZ_sum0 22 = .ok (.aload_n 0, 1) := by decide +kernel
theorem dZ_sum0_23 : decode cZ_sum0 23 = .ok (.iload_n 1, 1) := by decide +kernel
theorem dZ_sum0_24 : decode cZ_sum0 24 = .ok (.invokevirtual 37, 3) := by decide +kernel
theorem dZ_sum0_27 : decode cZ_sum0 27 = .ok (.iconst 0, 1) := by decide +kernel
theorem dZ_sum0_28 : decode cZ_sum0 28 = .ok (.istore_n 3, 1) := by decide +kernel
theorem dZ_sum0_29 : decode cZ_sum0 29 = .ok (.iconst 0, 1) := by decide +kernel
theorem dZ_sum0_30 : decode cZ_sum0 30 = .ok (.istore 4, 2) := by decide +kernel
theorem dZ_sum0_32 : decode cZ_sum0 32 = .ok (.iload 4, 2) := by decide +kernel
theorem dZ_sum0_34 : decode cZ_sum0 34 = .ok (.aload_n 0, 1) := by decide +kernel
theorem dZ_sum0_35 : decode cZ_sum0 35 = .ok (.getfield 22, 3) := by decide +kernel
theorem dZ_sum0_38 : decode cZ_sum0 38 = .ok (.if_icmp .ge 54, 3) := by decide +kernel
theorem dZ_sum0_41 : decode cZ_sum0 41 = .ok (.aload_n 0, 1) := by decide +kernel
theorem dZ_sum0_42 : decode cZ_sum0 42 = .ok (.getfield 9, 3) := by decide +kernel
theorem dZ_sum0_45 : decode cZ_sum0 45 = .ok (.iload 4, 2) := by decide +kernel
theorem dZ_sum0_47 : decode cZ_sum0 47 = .ok (.iaload, 1) := by decide +kernel
theorem dZ_sum0_48 : decode cZ_sum0 48 = .ok (.iload_n 1, 1) := by decide +kernel
theorem dZ_sum0_49 : decode cZ_sum0 49 = .ok (.if_icmp .eq 43, 3) := by decide +kernel
theorem dZ_sum0_52 : decode cZ_sum0 52 = .ok (.iload_n 3, 1) := by decide +kernel
theorem dZ_sum0_53 : decode cZ_sum0 53 = .ok (.iload_n 2, 1) := by decide +kernel
theorem dZ_sum0_54 : decode cZ_sum0 54 = .ok (.ifCond .ne 18, 3) := by decide +kernel
theorem dZ_sum0_57 : decode cZ_sum0 57 = .ok (.aload_n 0, 1) := by decide +kernel
theorem dZ_sum0_58 : decode cZ_sum0 58 = .ok (.getfield 13, 3) := by decide +kernel
theorem dZ_sum0_61 : decode cZ_sum0 61 = .ok (.aload_n 0, 1) := by decide +kernel
theorem dZ_sum0_62 : decode cZ_sum0 62 = .ok (.getfield 9, 3) := by decide +kernel
theorem dZ_sum0_65 : decode cZ_sum0 65 = .ok (.iload 4, 2) := by decide +kernel
theorem dZ_sum0_67 : decode cZ_sum0 67 = .ok (.iaload, 1) := by decide +kernel
theorem dZ_sum0_68 : decode cZ_sum0 68 = .ok (.iaload, 1) := by decide +kernel
theorem dZ_sum0_69 : decode cZ_sum0 69 = .ok (.goto 15, 3) := by decide +kernel
theorem dZ_sum0_72 : decode cZ_sum0 72 = .ok (.aload_n 0, 1) := by decide +kernel
theorem dZ_sum0_73 : decode cZ_sum0 73 = .ok (.getfield 16, 3) := by decide +kernel
theorem dZ_sum0_76 : decode cZ_sum0 76 = .ok (.aload_n 0, 1) := by decide +kernel
theorem dZ_sum0_77 : decode cZ_sum0 77 = .ok (.getfield 9, 3) := by decide +kernel
theorem dZ_sum0_80 : decode cZ_sum0 80 = .ok (.iload 4, 2) := by decide +kernel
theorem dZ_sum0_82 : decode cZ_sum0 82 = .ok (.iaload, 1) := by decide +kernel
theorem dZ_sum0_83 : decode cZ_sum0 83 = .ok (.iaload, 1) := by decide +kernel
theorem dZ_sum0_84 : decode cZ_sum0 84 = .ok (.iadd, 1) := by decide +kernel
theorem dZ_sum0_85 : decode cZ_sum0 85 = .ok (.istore_n 3, 1) := by decide +kernel
theorem dZ_sum0_86 : decode cZ_sum0 86 = .ok (.iinc 4 1, 3) := by decide +kernel
theorem dZ_sum0_89 : decode cZ_sum0 89 = .ok (.goto (-57), 3) := by decide +kernel
theorem dZ_sum0_92 : decode cZ_sum0 92 = .ok (.iload_n 3, 1) := by decide +kernel
theorem dZ_sum0_93 : decode cZ_sum0 93 = .ok (.ireturn, 1) := by decide +kernel
theorem dZ_next0_0 : decode cZ_next0 0 = .ok (.iload_n 1, 1) := by decide +kernel
theorem dZ_next0_1 : decode cZ_next0 1 = .ok (.iconst (-1), 1) := by decide +kernel
theorem dZ_next0_2 : decode cZ_next0 2 = .ok (.if_icmp .eq 8, 3) := by decide +kernel
theorem dZ_next0_5 : decode cZ_next0 5 = .ok (.aload_n 0, 1) := by decide +kernel
theorem dZ_next0_6 : decode cZ_next0 6 = .ok (.iload_n 1, 1) := by decide +kernel
theorem dZ_next0_7 : decode cZ_next0 7 = .ok (.invokevirtual 37, 3) := by decide +kernel
theorem dZ_next0_10 : decode cZ_next0 10 = .ok (.iload_n 1, 1) := by decide +kernel
theorem dZ_next0_11 : decode cZ_next0 11 = .ok (.ifCond .ge 7, 3) := by decide +kernel
theorem dZ_next0_14 : decode cZ_next0 14 = .ok (.iconst 0, 1) := by decide +kernel
theorem dZ_next0_15 : decode cZ_next0 15 = .ok (.goto 10, 3) := by decide +kernel
theorem dZ_next0_18 : decode cZ_next0 18 = .ok (.aload_n 0, 1) := by decide +kernel
theorem dZ_next0_19 : decode cZ_next0 19 = .ok (.iload_n 1, 1) := by decide +kernel
theorem dZ_next0_20 : decode cZ_next0 20 = .ok (.invokevirtual 44, 3) := by decide +kernel
theorem dZ_next0_23 : decode cZ_next0 23 = .ok (.iconst 1, 1) := by decide +kernel
theorem dZ_next0_24 : decode cZ_next0 24 = .ok (.iadd, 1) := by decide +kernel
theorem dZ_next0_25 : decode cZ_next0 25 = .ok (.istore_n 2, 1) := by decide +kernel
theorem dZ_next0_26 : decode cZ_next0 26 = .ok (.iload_n 2, 1) := by decide +kernel
theorem dZ_next0_27 : decode cZ_next0 27 = .ok (.aload_n 0, 1) := by decide +kernel
theorem dZ_next0_28 : decode cZ_next0 28 = .ok (.getfield 22, 3) := by decide +kernel
theorem dZ_next0_31 : decode cZ_next0 31 = .ok (.if_icmp .ne 11, 3) := by decide +kernel
theorem dZ_next0_34 : decode cZ_next0 34 = .ok (.new 26, 3) := by decide +kernel
theorem dZ_next0_37 : decode cZ_next0 37 = .ok (.dup, 1) := by decide +kernel
theorem dZ_next0_38 : decode cZ_next0 38 = .ok (.invokespecial 28, 3) := by decide +kernel
theorem dZ_next0_41 : decode cZ_next0 41 = .ok (.athrow, 1) := by decide +kernel
theorem dZ_next0_42 : decode cZ_next0 42 = .ok (.aload_n 0, 1) := by decide +kernel
theorem dZ_next0_43 : decode cZ_next0 43 = .ok (.getfield 9, 3) := by decide +kernel
theorem dZ_next0_46 : decode cZ_next0 46 = .ok (.iload_n 2, 1) := by decide +kernel
theorem dZ_next0_47 : decode cZ_next0 47 = .ok (.iaload, 1) := by decide +kernel
theorem dZ_next0_48 : decode cZ_next0 48 = .ok (.ireturn, 1) := by decide +kernel
theorem dZ_place0_0 : decode cZ_place0 0 = .ok (.aload_n 0, 1) := by decide +kernel
theorem dZ_place0_1 : decode cZ_place0 1 = .ok (.iload_n 1, 1) := by decide +kernel
theorem dZ_place0_2 : decode cZ_place0 2 = .ok (.invokevirtual 37, 3) := by decide +kernel
theorem dZ_place0_5 : decode cZ_place0 5 = .ok (.aload_n 0, 1) := by decide +kernel
theorem dZ_place0_6 : decode cZ_place0 6 = .ok (.iload_n 1, 1) := by decide +kernel
theorem dZ_place0_7 : decode cZ_place0 7 = .ok (.invokevirtual 44, 3) := by decide +kernel
theorem dZ_place0_10 : decode cZ_place0 10 = .ok (.ireturn, 1) := by decide +kernel
theorem dZ_entries0_0 : decode cZ_entries0 0 = .ok (.aload_n 0, 1) := by decide +kernel
theorem dZ_entries0_1 : decode cZ_entries0 1 = .ok (.getfield 22, 3) := by decide +kernel
theorem dZ_entries0_4 : decode cZ_entries0 4 = .ok (.ireturn, 1) := by decide +kernel
theorem dZ_thrown_0 : decode cZ_thrown 0 = .ok (.aload_n 0, 1) := by decide +kernel
theorem dZ_thrown_1 : decode cZ_thrown 1 = .ok (.getfield 52, 3) := by decide +kernel
theorem dZ_thrown_4 : decode cZ_thrown 4 = .ok (.ireturn, 1) := by decide +kernel
theorem dZ_behind_0 : decode cZ_behind 0 = .ok (.aload_n 0, 1) := by decide +kernel
theorem dZ_behind_1 : decode cZ_behind 1 = .ok (.iconst 0, 1) := by decide +kernel
theorem dZ_behind_2 : decode cZ_behind 2 = .ok (.putfield 52, 3) := by decide +kernel
theorem dZ_behind_5 : decode cZ_behind 5 = .ok (.aload_n 0, 1) := by decide +kernel
theorem dZ_behind_6 : decode cZ_behind 6 = .ok (.iload_n 1, 1) := by decide +kernel
theorem dZ_behind_7 : decode cZ_behind 7 = .ok (.iload_n 2, 1) := by decide +kernel
theorem dZ_behind_8 : decode cZ_behind 8 = .ok (.iload_n 3, 1) := by decide +kernel
theorem dZ_behind_9 : decode cZ_behind 9 = .ok (.iload 4, 2) := by decide +kernel
theorem dZ_behind_11 : decode cZ_behind 11 = .ok (.invokevirtual 55, 3) := by decide +kernel
theorem dZ_behind_14 : decode cZ_behind 14 = .ok (.ireturn, 1) := by decide +kernel
theorem dZ_behind_15 : decode cZ_behind 15 = .ok (.astore 5, 2) := by decide +kernel
theorem dZ_behind_17 : decode cZ_behind 17 = .ok (.aload_n 0, 1) := by decide +kernel
theorem dZ_behind_18 : decode cZ_behind 18 = .ok (.iconst 1, 1) := by decide +kernel
theorem dZ_behind_19 : decode cZ_behind 19 = .ok (.putfield 52, 3) := by decide +kernel
theorem dZ_behind_22 : decode cZ_behind 22 = .ok (.goto 20, 3) := by decide +kernel
theorem dZ_behind_25 : decode cZ_behind 25 = .ok (.astore 5, 2) := by decide +kernel
theorem dZ_behind_27 : decode cZ_behind 27 = .ok (.aload_n 0, 1) := by decide +kernel
theorem dZ_behind_28 : decode cZ_behind 28 = .ok (.iconst 2, 1) := by decide +kernel
theorem dZ_behind_29 : decode cZ_behind 29 = .ok (.putfield 52, 3) := by decide +kernel
theorem dZ_behind_32 : decode cZ_behind 32 = .ok (.goto 10, 3) := by decide +kernel
theorem dZ_behind_35 : decode cZ_behind 35 = .ok (.astore 5, 2) := by decide +kernel
theorem dZ_behind_37 : decode cZ_behind 37 = .ok (.aload_n 0, 1) := by decide +kernel
theorem dZ_behind_38 : decode cZ_behind 38 = .ok (.iconst 3, 1) := by decide +kernel
theorem dZ_behind_39 : decode cZ_behind 39 = .ok (.putfield 52, 3) := by decide +kernel
theorem dZ_behind_42 : decode cZ_behind 42 = .ok (.iconst 0, 1) := by decide +kernel
theorem dZ_behind_43 : decode cZ_behind 43 = .ok (.ireturn, 1) := by decide +kernel
theorem dZ_before_0 : decode cZ_before 0 = .ok (.aload_n 0, 1) := by decide +kernel
theorem dZ_before_1 : decode cZ_before 1 = .ok (.iconst 0, 1) := by decide +kernel
theorem dZ_before_2 : decode cZ_before 2 = .ok (.putfield 52, 3) := by decide +kernel
theorem dZ_before_5 : decode cZ_before 5 = .ok (.aload_n 0, 1) := by decide +kernel
theorem dZ_before_6 : decode cZ_before 6 = .ok (.iload_n 1, 1) := by decide +kernel
theorem dZ_before_7 : decode cZ_before 7 = .ok (.iload_n 2, 1) := by decide +kernel
theorem dZ_before_8 : decode cZ_before 8 = .ok (.iload_n 3, 1) := by decide +kernel
theorem dZ_before_9 : decode cZ_before 9 = .ok (.invokevirtual 59, 3) := by decide +kernel
theorem dZ_before_12 : decode cZ_before 12 = .ok (.ireturn, 1) := by decide +kernel
theorem dZ_before_13 : decode cZ_before 13 = .ok (.astore 4, 2) := by decide +kernel
theorem dZ_before_15 : decode cZ_before 15 = .ok (.aload_n 0, 1) := by decide +kernel
theorem dZ_before_16 : decode cZ_before 16 = .ok (.iconst 1, 1) := by decide +kernel
theorem dZ_before_17 : decode cZ_before 17 = .ok (.putfield 52, 3) := by decide +kernel
theorem dZ_before_20 : decode cZ_before 20 = .ok (.goto 20, 3) := by decide +kernel
theorem dZ_before_23 : decode cZ_before 23 = .ok (.astore 4, 2) := by decide +kernel
theorem dZ_before_25 : decode cZ_before 25 = .ok (.aload_n 0, 1) := by decide +kernel
theorem dZ_before_26 : decode cZ_before 26 = .ok (.iconst 2, 1) := by decide +kernel
theorem dZ_before_27 : decode cZ_before 27 = .ok (.putfield 52, 3) := by decide +kernel
theorem dZ_before_30 : decode cZ_before 30 = .ok (.goto 10, 3) := by decide +kernel
theorem dZ_before_33 : decode cZ_before 33 = .ok (.astore 4, 2) := by decide +kernel
theorem dZ_before_35 : decode cZ_before 35 = .ok (.aload_n 0, 1) := by decide +kernel
theorem dZ_before_36 : decode cZ_before 36 = .ok (.iconst 3, 1) := by decide +kernel
theorem dZ_before_37 : decode cZ_before 37 = .ok (.putfield 52, 3) := by decide +kernel
theorem dZ_before_40 : decode cZ_before 40 = .ok (.iconst 0, 1) := by decide +kernel
theorem dZ_before_41 : decode cZ_before 41 = .ok (.ireturn, 1) := by decide +kernel
theorem dZ_weigh_0 : decode cZ_weigh 0 = .ok (.aload_n 0, 1) := by decide +kernel
theorem dZ_weigh_1 : decode cZ_weigh 1 = .ok (.iconst 0, 1) := by decide +kernel
theorem dZ_weigh_2 : decode cZ_weigh 2 = .ok (.putfield 52, 3) := by decide +kernel
theorem dZ_weigh_5 : decode cZ_weigh 5 = .ok (.aload_n 0, 1) := by decide +kernel
theorem dZ_weigh_6 : decode cZ_weigh 6 = .ok (.iload_n 1, 1) := by decide +kernel
theorem dZ_weigh_7 : decode cZ_weigh 7 = .ok (.iload_n 2, 1) := by decide +kernel
theorem dZ_weigh_8 : decode cZ_weigh 8 = .ok (.iload_n 3, 1) := by decide +kernel
theorem dZ_weigh_9 : decode cZ_weigh 9 = .ok (.invokevirtual 63, 3) := by decide +kernel
theorem dZ_weigh_12 : decode cZ_weigh 12 = .ok (.ireturn, 1) := by decide +kernel
theorem dZ_weigh_13 : decode cZ_weigh 13 = .ok (.astore 4, 2) := by decide +kernel
theorem dZ_weigh_15 : decode cZ_weigh 15 = .ok (.aload_n 0, 1) := by decide +kernel
theorem dZ_weigh_16 : decode cZ_weigh 16 = .ok (.iconst 1, 1) := by decide +kernel
theorem dZ_weigh_17 : decode cZ_weigh 17 = .ok (.putfield 52, 3) := by decide +kernel
theorem dZ_weigh_20 : decode cZ_weigh 20 = .ok (.goto 10, 3) := by decide +kernel
theorem dZ_weigh_23 : decode cZ_weigh 23 = .ok (.astore 4, 2) := by decide +kernel
theorem dZ_weigh_25 : decode cZ_weigh 25 = .ok (.aload_n 0, 1) := by decide +kernel
theorem dZ_weigh_26 : decode cZ_weigh 26 = .ok (.iconst 2, 1) := by decide +kernel
theorem dZ_weigh_27 : decode cZ_weigh 27 = .ok (.putfield 52, 3) := by decide +kernel
theorem dZ_weigh_30 : decode cZ_weigh 30 = .ok (.iconst 0, 1) := by decide +kernel
theorem dZ_weigh_31 : decode cZ_weigh 31 = .ok (.ireturn, 1) := by decide +kernel
theorem dZ_find_0 : decode cZ_find 0 = .ok (.aload_n 0, 1) := by decide +kernel
theorem dZ_find_1 : decode cZ_find 1 = .ok (.iconst 0, 1) := by decide +kernel
theorem dZ_find_2 : decode cZ_find 2 = .ok (.putfield 52, 3) := by decide +kernel
theorem dZ_find_5 : decode cZ_find 5 = .ok (.aload_n 0, 1) := by decide +kernel
theorem dZ_find_6 : decode cZ_find 6 = .ok (.iload_n 1, 1) := by decide +kernel
theorem dZ_find_7 : decode cZ_find 7 = .ok (.invokevirtual 66, 3) := by decide +kernel
theorem dZ_find_10 : decode cZ_find 10 = .ok (.ireturn, 1) := by decide +kernel
theorem dZ_find_11 : decode cZ_find 11 = .ok (.astore_n 2, 1) := by decide +kernel
theorem dZ_find_12 : decode cZ_find 12 = .ok (.aload_n 0, 1) := by decide +kernel
theorem dZ_find_13 : decode cZ_find 13 = .ok (.iconst 1, 1) := by decide +kernel
theorem dZ_find_14 : decode cZ_find 14 = .ok (.putfield 52, 3) := by decide +kernel
theorem dZ_find_17 : decode cZ_find 17 = .ok (.iconst 0, 1) := by decide +kernel
theorem dZ_find_18 : decode cZ_find 18 = .ok (.ireturn, 1) := by decide +kernel
theorem dZ_sum_0 : decode cZ_sum 0 = .ok (.aload_n 0, 1) := by decide +kernel
theorem dZ_sum_1 : decode cZ_sum 1 = .ok (.iconst 0, 1) := by decide +kernel
theorem dZ_sum_2 : decode cZ_sum 2 = .ok (.putfield 52, 3) := by decide +kernel
theorem dZ_sum_5 : decode cZ_sum 5 = .ok (.aload_n 0, 1) := by decide +kernel
theorem dZ_sum_6 : decode cZ_sum 6 = .ok (.iload_n 1, 1) := by decide +kernel
theorem dZ_sum_7 : decode cZ_sum 7 = .ok (.iload_n 2, 1) := by decide +kernel
theorem dZ_sum_8 : decode cZ_sum 8 = .ok (.invokevirtual 69, 3) := by decide +kernel
theorem dZ_sum_11 : decode cZ_sum 11 = .ok (.ireturn, 1) := by decide +kernel
theorem dZ_sum_12 : decode cZ_sum 12 = .ok (.astore_n 3, 1) := by decide +kernel
theorem dZ_sum_13 : decode cZ_sum 13 = .ok (.aload_n 0, 1) := by decide +kernel
theorem dZ_sum_14 : decode cZ_sum 14 = .ok (.iconst 1, 1) := by decide +kernel
theorem dZ_sum_15 : decode cZ_sum 15 = .ok (.putfield 52, 3) := by decide +kernel
theorem dZ_sum_18 : decode cZ_sum 18 = .ok (.goto 9, 3) := by decide +kernel
theorem dZ_sum_21 : decode cZ_sum 21 = .ok (.astore_n 3, 1) := by decide +kernel
theorem dZ_sum_22 : decode cZ_sum 22 = .ok (.aload_n 0, 1) := by decide +kernel
theorem dZ_sum_23 : decode cZ_sum 23 = .ok (.iconst 2, 1) := by decide +kernel
theorem dZ_sum_24 : decode cZ_sum 24 = .ok (.putfield 52, 3) := by decide +kernel
theorem dZ_sum_27 : decode cZ_sum 27 = .ok (.iconst 0, 1) := by decide +kernel
theorem dZ_sum_28 : decode cZ_sum 28 = .ok (.ireturn, 1) := by decide +kernel
theorem dZ_next_0 : decode cZ_next 0 = .ok (.aload_n 0, 1) := by decide +kernel
theorem dZ_next_1 : decode cZ_next 1 = .ok (.iconst 0, 1) := by decide +kernel
theorem dZ_next_2 : decode cZ_next 2 = .ok (.putfield 52, 3) := by decide +kernel
theorem dZ_next_5 : decode cZ_next 5 = .ok (.aload_n 0, 1) := by decide +kernel
theorem dZ_next_6 : decode cZ_next 6 = .ok (.iload_n 1, 1) := by decide +kernel
theorem dZ_next_7 : decode cZ_next 7 = .ok (.invokevirtual 73, 3) := by decide +kernel
theorem dZ_next_10 : decode cZ_next 10 = .ok (.ireturn, 1) := by decide +kernel
theorem dZ_next_11 : decode cZ_next 11 = .ok (.astore_n 2, 1) := by decide +kernel
theorem dZ_next_12 : decode cZ_next 12 = .ok (.aload_n 0, 1) := by decide +kernel
theorem dZ_next_13 : decode cZ_next 13 = .ok (.iconst 1, 1) := by decide +kernel
theorem dZ_next_14 : decode cZ_next 14 = .ok (.putfield 52, 3) := by decide +kernel
theorem dZ_next_17 : decode cZ_next 17 = .ok (.iconst 0, 1) := by decide +kernel
theorem dZ_next_18 : decode cZ_next 18 = .ok (.ireturn, 1) := by decide +kernel
theorem dZ_place_0 : decode cZ_place 0 = .ok (.aload_n 0, 1) := by decide +kernel
theorem dZ_place_1 : decode cZ_place 1 = .ok (.iconst 0, 1) := by decide +kernel
theorem dZ_place_2 : decode cZ_place 2 = .ok (.putfield 52, 3) := by decide +kernel
theorem dZ_place_5 : decode cZ_place 5 = .ok (.aload_n 0, 1) := by decide +kernel
theorem dZ_place_6 : decode cZ_place 6 = .ok (.iload_n 1, 1) := by decide +kernel
theorem dZ_place_7 : decode cZ_place 7 = .ok (.invokevirtual 76, 3) := by decide +kernel
theorem dZ_place_10 : decode cZ_place 10 = .ok (.ireturn, 1) := by decide +kernel
theorem dZ_place_11 : decode cZ_place 11 = .ok (.astore_n 2, 1) := by decide +kernel
theorem dZ_place_12 : decode cZ_place 12 = .ok (.aload_n 0, 1) := by decide +kernel
theorem dZ_place_13 : decode cZ_place 13 = .ok (.iconst 1, 1) := by decide +kernel
theorem dZ_place_14 : decode cZ_place 14 = .ok (.putfield 52, 3) := by decide +kernel
theorem dZ_place_17 : decode cZ_place 17 = .ok (.iconst 0, 1) := by decide +kernel
theorem dZ_place_18 : decode cZ_place 18 = .ok (.ireturn, 1) := by decide +kernel
theorem dZ_entries_0 : decode cZ_entries 0 = .ok (.aload_n 0, 1) := by decide +kernel
theorem dZ_entries_1 : decode cZ_entries 1 = .ok (.iconst 0, 1) := by decide +kernel
theorem dZ_entries_2 : decode cZ_entries 2 = .ok (.putfield 52, 3) := by decide +kernel
theorem dZ_entries_5 : decode cZ_entries 5 = .ok (.aload_n 0, 1) := by decide +kernel
theorem dZ_entries_6 : decode cZ_entries 6 = .ok (.invokevirtual 79, 3) := by decide +kernel
theorem dZ_entries_9 : decode cZ_entries 9 = .ok (.ireturn, 1) := by decide +kernel
set_option maxRecDepth 100000 in
theorem gZ_behind0_Z_isWeight : GoodIn wsZ_behind0 (va_wsS RZ 29 yZ_isWeight wsZ_isWeight) := zg_app (c := .code yZ_behind0 cZ_behind0 7 (some .int)) (d := .code yZ_isWeight cZ_isWeight 1 (some .boolean)) (L := [.methodLink RZ 29 yZ_isWeight, .static yZ_isWeight, .initialized RZ]) (by decide +kernel) (by decide +kernel)
set_option maxRecDepth 100000 in
theorem gZ_behind0_Z_check : GoodIn wsZ_behind0 (va_wsS RZ 33 yZ_check wsZ_check) := zg_app (c := .code yZ_behind0 cZ_behind0 7 (some .int)) (d := .code yZ_check cZ_check 1 none) (L := [.methodLink RZ 33 yZ_check, .static yZ_check, .initialized RZ]) (by decide +kernel) (by decide +kernel)
set_option maxRecDepth 100000 in
theorem gZ_behind0_Z_there : GoodIn wsZ_behind0 (wsV RZ 37 RZ yZ_there wsZ_there) := zg_app (c := .code yZ_behind0 cZ_behind0 7 (some .int)) (d := .code yZ_there cZ_there 2 none) (L := [.methodLink RZ 37 yZ_there, .instanceMethod yZ_there, .selects RZ yZ_there yZ_there, .initialized RZ]) (by decide +kernel) (by decide +kernel)
set_option maxRecDepth 100000 in
theorem gZ_behind0_Z_inRow : GoodIn wsZ_behind0 (wsV RZ 44 RZ yZ_inRow wsZ_inRow) := zg_app (c := .code yZ_behind0 cZ_behind0 7 (some .int)) (d := .code yZ_inRow cZ_inRow 3 (some .int)) (L := [.methodLink RZ 44 yZ_inRow, .instanceMethod yZ_inRow, .selects RZ yZ_inRow yZ_inRow, .initialized RZ]) (by decide +kernel) (by decide +kernel)
set_option maxRecDepth 100000 in
theorem gZ_behind0_Z_open : GoodIn wsZ_behind0 (wsV RZ 48 RZ yZ_open wsZ_open) := zg_app (c := .code yZ_behind0 cZ_behind0 7 (some .int)) (d := .code yZ_open cZ_open 5 none) (L := [.methodLink RZ 48 yZ_open, .instanceMethod yZ_open, .selects RZ yZ_open yZ_open, .initialized RZ]) (by decide +kernel) (by decide +kernel)
set_option maxRecDepth 100000 in
theorem gZ_before0_Z_isWeight : GoodIn wsZ_before0 (va_wsS RZ 29 yZ_isWeight wsZ_isWeight) := zg_app (c := .code yZ_before0 cZ_before0 4 (some .int)) (d := .code yZ_isWeight cZ_isWeight 1 (some .boolean)) (L := [.methodLink RZ 29 yZ_isWeight, .static yZ_isWeight, .initialized RZ]) (by decide +kernel) (by decide +kernel)
set_option maxRecDepth 100000 in
theorem gZ_before0_Z_check : GoodIn wsZ_before0 (va_wsS RZ 33 yZ_check wsZ_check) := zg_app (c := .code yZ_before0 cZ_before0 4 (some .int)) (d := .code yZ_check cZ_check 1 none) (L := [.methodLink RZ 33 yZ_check, .static yZ_check, .initialized RZ]) (by decide +kernel) (by decide +kernel)
set_option maxRecDepth 100000 in
theorem gZ_before0_Z_there : GoodIn wsZ_before0 (wsV RZ 37 RZ yZ_there wsZ_there) := zg_app (c := .code yZ_before0 cZ_before0 4 (some .int)) (d := .code yZ_there cZ_there 2 none) (L := [.methodLink RZ 37 yZ_there, .instanceMethod yZ_there, .selects RZ yZ_there yZ_there, .initialized RZ]) (by decide +kernel) (by decide +kernel)
set_option maxRecDepth 100000 in
theorem gZ_before0_Z_inRow : GoodIn wsZ_before0 (wsV RZ 44 RZ yZ_inRow wsZ_inRow) := zg_app (c := .code yZ_before0 cZ_before0 4 (some .int)) (d := .code yZ_inRow cZ_inRow 3 (some .int)) (L := [.methodLink RZ 44 yZ_inRow, .instanceMethod yZ_inRow, .selects RZ yZ_inRow yZ_inRow, .initialized RZ]) (by decide +kernel) (by decide +kernel)
set_option maxRecDepth 100000 in
theorem gZ_before0_Z_open : GoodIn wsZ_before0 (wsV RZ 48 RZ yZ_open wsZ_open) := zg_app (c := .code yZ_before0 cZ_before0 4 (some .int)) (d := .code yZ_open cZ_open 5 none) (L := [.methodLink RZ 48 yZ_open, .instanceMethod yZ_open, .selects RZ yZ_open yZ_open, .initialized RZ]) (by decide +kernel) (by decide +kernel)
set_option maxRecDepth 100000 in
theorem gZ_weigh0_Z_isWeight : GoodIn wsZ_weigh0 (va_wsS RZ 29 yZ_isWeight wsZ_isWeight) := zg_app (c := .code yZ_weigh0 cZ_weigh0 5 (some .int)) (d := .code yZ_isWeight cZ_isWeight 1 (some .boolean)) (L := [.methodLink RZ 29 yZ_isWeight, .static yZ_isWeight, .initialized RZ]) (by decide +kernel) (by decide +kernel)
set_option maxRecDepth 100000 in
theorem gZ_weigh0_Z_check : GoodIn wsZ_weigh0 (va_wsS RZ 33 yZ_check wsZ_check) := zg_app (c := .code yZ_weigh0 cZ_weigh0 5 (some .int)) (d := .code yZ_check cZ_check 1 none) (L := [.methodLink RZ 33 yZ_check, .static yZ_check, .initialized RZ]) (by decide +kernel) (by decide +kernel)
set_option maxRecDepth 100000 in
theorem gZ_weigh0_Z_there : GoodIn wsZ_weigh0 (wsV RZ 37 RZ yZ_there wsZ_there) := zg_app (c := .code yZ_weigh0 cZ_weigh0 5 (some .int)) (d := .code yZ_there cZ_there 2 none) (L := [.methodLink RZ 37 yZ_there, .instanceMethod yZ_there, .selects RZ yZ_there yZ_there, .initialized RZ]) (by decide +kernel) (by decide +kernel)
set_option maxRecDepth 100000 in
theorem gZ_sum0_Z_check : GoodIn wsZ_sum0 (va_wsS RZ 33 yZ_check wsZ_check) := zg_app (c := .code yZ_sum0 cZ_sum0 5 (some .int)) (d := .code yZ_check cZ_check 1 none) (L := [.methodLink RZ 33 yZ_check, .static yZ_check, .initialized RZ]) (by decide +kernel) (by decide +kernel)
set_option maxRecDepth 100000 in
theorem gZ_sum0_Z_there : GoodIn wsZ_sum0 (wsV RZ 37 RZ yZ_there wsZ_there) := zg_app (c := .code yZ_sum0 cZ_sum0 5 (some .int)) (d := .code yZ_there cZ_there 2 none) (L := [.methodLink RZ 37 yZ_there, .instanceMethod yZ_there, .selects RZ yZ_there yZ_there, .initialized RZ]) (by decide +kernel) (by decide +kernel)
set_option maxRecDepth 100000 in
theorem gZ_next0_Z_there : GoodIn wsZ_next0 (wsV RZ 37 RZ yZ_there wsZ_there) := zg_app (c := .code yZ_next0 cZ_next0 3 (some .int)) (d := .code yZ_there cZ_there 2 none) (L := [.methodLink RZ 37 yZ_there, .instanceMethod yZ_there, .selects RZ yZ_there yZ_there, .initialized RZ]) (by decide +kernel) (by decide +kernel)
set_option maxRecDepth 100000 in
theorem gZ_next0_Z_inRow : GoodIn wsZ_next0 (wsV RZ 44 RZ yZ_inRow wsZ_inRow) := zg_app (c := .code yZ_next0 cZ_next0 3 (some .int)) (d := .code yZ_inRow cZ_inRow 3 (some .int)) (L := [.methodLink RZ 44 yZ_inRow, .instanceMethod yZ_inRow, .selects RZ yZ_inRow yZ_inRow, .initialized RZ]) (by decide +kernel) (by decide +kernel)
set_option maxRecDepth 100000 in
theorem gZ_place0_Z_there : GoodIn wsZ_place0 (wsV RZ 37 RZ yZ_there wsZ_there) := zg_app (c := .code yZ_place0 cZ_place0 2 (some .int)) (d := .code yZ_there cZ_there 2 none) (L := [.methodLink RZ 37 yZ_there, .instanceMethod yZ_there, .selects RZ yZ_there yZ_there, .initialized RZ]) (by decide +kernel) (by decide +kernel)
set_option maxRecDepth 100000 in
theorem gZ_place0_Z_inRow : GoodIn wsZ_place0 (wsV RZ 44 RZ yZ_inRow wsZ_inRow) := zg_app (c := .code yZ_place0 cZ_place0 2 (some .int)) (d := .code yZ_inRow cZ_inRow 3 (some .int)) (L := [.methodLink RZ 44 yZ_inRow, .instanceMethod yZ_inRow, .selects RZ yZ_inRow yZ_inRow, .initialized RZ]) (by decide +kernel) (by decide +kernel)
set_option maxRecDepth 100000 in
theorem gZ_behind_Z_behind0 : GoodIn wsZ_behind (wsV RZ 55 RZ yZ_behind0 wsZ_behind0) := zg_app (c := .codeWith yZ_behind cZ_behind 6 (some .int) [(5, 14, 15, 19), (5, 14, 25, 26), (5, 14, 35, 41)]) (d := .code yZ_behind0 cZ_behind0 7 (some .int)) (L := [.methodLink RZ 55 yZ_behind0, .instanceMethod yZ_behind0, .selects RZ yZ_behind0 yZ_behind0, .initialized RZ]) (by decide +kernel) (by decide +kernel)
set_option maxRecDepth 100000 in
theorem gZ_before_Z_before0 : GoodIn wsZ_before (wsV RZ 59 RZ yZ_before0 wsZ_before0) := zg_app (c := .codeWith yZ_before cZ_before 5 (some .int) [(5, 12, 13, 19), (5, 12, 23, 26), (5, 12, 33, 41)]) (d := .code yZ_before0 cZ_before0 4 (some .int)) (L := [.methodLink RZ 59 yZ_before0, .instanceMethod yZ_before0, .selects RZ yZ_before0 yZ_before0, .initialized RZ]) (by decide +kernel) (by decide +kernel)
set_option maxRecDepth 100000 in
theorem gZ_weigh_Z_weigh0 : GoodIn wsZ_weigh (wsV RZ 63 RZ yZ_weigh0 wsZ_weigh0) := zg_app (c := .codeWith yZ_weigh cZ_weigh 5 (some .int) [(5, 12, 13, 19), (5, 12, 23, 26)]) (d := .code yZ_weigh0 cZ_weigh0 5 (some .int)) (L := [.methodLink RZ 63 yZ_weigh0, .instanceMethod yZ_weigh0, .selects RZ yZ_weigh0 yZ_weigh0, .initialized RZ]) (by decide +kernel) (by decide +kernel)
set_option maxRecDepth 100000 in
theorem gZ_find_Z_find0 : GoodIn wsZ_find (wsV RZ 66 RZ yZ_find0 wsZ_find0) := zg_app (c := .codeWith yZ_find cZ_find 3 (some .int) [(5, 10, 11, 26)]) (d := .code yZ_find0 cZ_find0 4 (some .int)) (L := [.methodLink RZ 66 yZ_find0, .instanceMethod yZ_find0, .selects RZ yZ_find0 yZ_find0, .initialized RZ]) (by decide +kernel) (by decide +kernel)
set_option maxRecDepth 100000 in
theorem gZ_sum_Z_sum0 : GoodIn wsZ_sum (wsV RZ 69 RZ yZ_sum0 wsZ_sum0) := zg_app (c := .codeWith yZ_sum cZ_sum 4 (some .int) [(5, 11, 12, 19), (5, 11, 21, 26)]) (d := .code yZ_sum0 cZ_sum0 5 (some .int)) (L := [.methodLink RZ 69 yZ_sum0, .instanceMethod yZ_sum0, .selects RZ yZ_sum0 yZ_sum0, .initialized RZ]) (by decide +kernel) (by decide +kernel)
set_option maxRecDepth 100000 in
theorem gZ_next_Z_next0 : GoodIn wsZ_next (wsV RZ 73 RZ yZ_next0 wsZ_next0) := zg_app (c := .codeWith yZ_next cZ_next 3 (some .int) [(5, 10, 11, 26)]) (d := .code yZ_next0 cZ_next0 3 (some .int)) (L := [.methodLink RZ 73 yZ_next0, .instanceMethod yZ_next0, .selects RZ yZ_next0 yZ_next0, .initialized RZ]) (by decide +kernel) (by decide +kernel)
set_option maxRecDepth 100000 in
theorem gZ_place_Z_place0 : GoodIn wsZ_place (wsV RZ 76 RZ yZ_place0 wsZ_place0) := zg_app (c := .codeWith yZ_place cZ_place 3 (some .int) [(5, 10, 11, 26)]) (d := .code yZ_place0 cZ_place0 2 (some .int)) (L := [.methodLink RZ 76 yZ_place0, .instanceMethod yZ_place0, .selects RZ yZ_place0 yZ_place0, .initialized RZ]) (by decide +kernel) (by decide +kernel)
set_option maxRecDepth 100000 in
theorem gZ_entries_Z_entries0 : GoodIn wsZ_entries (wsV RZ 79 RZ yZ_entries0 wsZ_entries0) := zg_app (c := .code yZ_entries cZ_entries 1 (some .int)) (d := .code yZ_entries0 cZ_entries0 1 (some .int)) (L := [.methodLink RZ 79 yZ_entries0, .instanceMethod yZ_entries0, .selects RZ yZ_entries0 yZ_entries0, .initialized RZ]) (by decide +kernel) (by decide +kernel)
set_option maxRecDepth 100000 in
theorem gL2_Z_thrown : GoodIn wsL2 (wsV RL 50 RZ yZ_thrown wsZ_thrown) := zg_l2 (d := .code yZ_thrown cZ_thrown 1 (some .int)) (L := [.methodLink RL 50 yZ_thrown, .instanceMethod yZ_thrown, .selects RZ yZ_thrown yZ_thrown, .initialized RZ]) (by decide +kernel) (by decide +kernel)
set_option maxRecDepth 100000 in
theorem gL2_Z_behind : GoodIn wsL2 (wsV RL 49 RZ yZ_behind wsZ_behind) := zg_l2 (d := .codeWith yZ_behind cZ_behind 6 (some .int) [(5, 14, 15, 19), (5, 14, 25, 26), (5, 14, 35, 41)]) (L := [.methodLink RL 49 yZ_behind, .instanceMethod yZ_behind, .selects RZ yZ_behind yZ_behind, .initialized RZ]) (by decide +kernel) (by decide +kernel)
set_option maxRecDepth 100000 in
theorem gL2_Z_before : GoodIn wsL2 (wsV RL 57 RZ yZ_before wsZ_before) := zg_l2 (d := .codeWith yZ_before cZ_before 5 (some .int) [(5, 12, 13, 19), (5, 12, 23, 26), (5, 12, 33, 41)]) (L := [.methodLink RL 57 yZ_before, .instanceMethod yZ_before, .selects RZ yZ_before yZ_before, .initialized RZ]) (by decide +kernel) (by decide +kernel)
set_option maxRecDepth 100000 in
theorem gL2_Z_weigh : GoodIn wsL2 (wsV RL 60 RZ yZ_weigh wsZ_weigh) := zg_l2 (d := .codeWith yZ_weigh cZ_weigh 5 (some .int) [(5, 12, 13, 19), (5, 12, 23, 26)]) (L := [.methodLink RL 60 yZ_weigh, .instanceMethod yZ_weigh, .selects RZ yZ_weigh yZ_weigh, .initialized RZ]) (by decide +kernel) (by decide +kernel)
set_option maxRecDepth 100000 in
theorem gL2_Z_find : GoodIn wsL2 (wsV RL 64 RZ yZ_find wsZ_find) := zg_l2 (d := .codeWith yZ_find cZ_find 3 (some .int) [(5, 10, 11, 26)]) (L := [.methodLink RL 64 yZ_find, .instanceMethod yZ_find, .selects RZ yZ_find yZ_find, .initialized RZ]) (by decide +kernel) (by decide +kernel)
set_option maxRecDepth 100000 in
theorem gL2_Z_sum : GoodIn wsL2 (wsV RL 68 RZ yZ_sum wsZ_sum) := zg_l2 (d := .codeWith yZ_sum cZ_sum 4 (some .int) [(5, 11, 12, 19), (5, 11, 21, 26)]) (L := [.methodLink RL 68 yZ_sum, .instanceMethod yZ_sum, .selects RZ yZ_sum yZ_sum, .initialized RZ]) (by decide +kernel) (by decide +kernel)
set_option maxRecDepth 100000 in
theorem gL2_Z_next : GoodIn wsL2 (wsV RL 71 RZ yZ_next wsZ_next) := zg_l2 (d := .codeWith yZ_next cZ_next 3 (some .int) [(5, 10, 11, 26)]) (L := [.methodLink RL 71 yZ_next, .instanceMethod yZ_next, .selects RZ yZ_next yZ_next, .initialized RZ]) (by decide +kernel) (by decide +kernel)
set_option maxRecDepth 100000 in
theorem gL2_Z_place : GoodIn wsL2 (wsV RL 74 RZ yZ_place wsZ_place) := zg_l2 (d := .codeWith yZ_place cZ_place 3 (some .int) [(5, 10, 11, 26)]) (L := [.methodLink RL 74 yZ_place, .instanceMethod yZ_place, .selects RZ yZ_place yZ_place, .initialized RZ]) (by decide +kernel) (by decide +kernel)
set_option maxRecDepth 100000 in
theorem gL2_Z_entries : GoodIn wsL2 (wsV RL 78 RZ yZ_entries wsZ_entries) := zg_l2 (d := .code yZ_entries cZ_entries 1 (some .int)) (L := [.methodLink RL 78 yZ_entries, .instanceMethod yZ_entries, .selects RZ yZ_entries yZ_entries, .initialized RZ]) (by decide +kernel) (by decide +kernel)
set_option maxRecDepth 100000 in
theorem gL2_Z_init : GoodIn wsL2 wsZ_init := zg_l2 (d := .code yZ_init cZ_init 1 none) (L := []) (fun _ h => nomatch h) (by decide +kernel)
end
section
/-! What a state of the row IS, in numbers and functions: nothing of the machine here.
R: the entry at a place; F, S: the two weights by the entry's number; c: how many entries. -/
/-- the first k below n at which p holds, n where there is none -/
def rk_fs (p : Nat → Bool) : Nat → Nat
  | 0 => 0
  | n + 1 => if rk_fs p n < n then rk_fs p n else if p n = true then n else n + 1
theorem rk_fs_le (p : Nat → Bool) : ∀ n, rk_fs p n ≤ n
  | 0 => Nat.le_refl _
  | n + 1 => by
    have h := rk_fs_le p n
    show (if rk_fs p n < n then rk_fs p n else if p n = true then n else n + 1) ≤ n + 1
    by_cases h1 : rk_fs p n < n
    · rw [if_pos h1]; omega
    · rw [if_neg h1]
      by_cases h2 : p n = true
      · rw [if_pos h2]; omega
      · rw [if_neg h2]; exact Nat.le_refl _
theorem rk_fs_no (p : Nat → Bool) : ∀ n j, j < rk_fs p n → p j = false
  | 0, j, h => absurd h (Nat.not_lt_zero j)
  | n + 1, j, h => by
    have hle := rk_fs_le p n
    have ih := rk_fs_no p n
    have h' : j < (if rk_fs p n < n then rk_fs p n else if p n = true then n else n + 1) := h
    by_cases h1 : rk_fs p n < n
    · rw [if_pos h1] at h'
      exact ih j h'
    · rw [if_neg h1] at h'
      by_cases h2 : p n = true
      · rw [if_pos h2] at h'
        exact ih j (by omega)
      · rw [if_neg h2] at h'
        by_cases h3 : j < n
        · exact ih j (by omega)
        · have e : j = n := by omega
          rw [e]
          cases hp : p n with
          | false => rfl
          | true => exact absurd hp h2
theorem rk_fs_at (p : Nat → Bool) : ∀ n, rk_fs p n < n → p (rk_fs p n) = true
  | 0, h => absurd h (Nat.not_lt_zero _)
  | n + 1, h => by
    have e : rk_fs p (n + 1) = (if rk_fs p n < n then rk_fs p n else if p n = true then n else n + 1) := rfl
    by_cases h1 : rk_fs p n < n
    · rw [e, if_pos h1]
      exact rk_fs_at p n h1
    · rw [e, if_neg h1] at h ⊢
      by_cases h2 : p n = true
      · rw [if_pos h2]; exact h2
      · rw [if_neg h2] at h
        omega
theorem rk_fs_eq {p : Nat → Bool} {n k : Nat} (h1 : k ≤ n) (h2 : ∀ j, j < k → p j = false) (h3 : k < n → p k = true) : rk_fs p n = k := by
  have g1 := rk_fs_le p n
  have g2 := rk_fs_no p n
  have g3 := rk_fs_at p n
  rcases Nat.lt_trichotomy (rk_fs p n) k with h | h | h
  · have a := g3 (by omega)
    rw [h2 _ h] at a
    cases a
  · exact h
  · have a := h3 (by omega)
    rw [g2 _ h] at a
    cases a
/-- the first place at which entry e stands -/
def rk_pl (R : Nat → Int32) (e : Int32) (c : Nat) : Nat := rk_fs (fun k => decide (R k = e)) c
theorem rk_pl_le (R : Nat → Int32) (e : Int32) (c : Nat) : rk_pl R e c ≤ c := rk_fs_le _ c
theorem rk_pl_no {R : Nat → Int32} {e : Int32} {c j : Nat} (h : j < rk_pl R e c) : ¬ R j = e := of_decide_eq_false (rk_fs_no _ c j h)
theorem rk_pl_at {R : Nat → Int32} {e : Int32} {c : Nat} (h : rk_pl R e c < c) : R (rk_pl R e c) = e := of_decide_eq_true (rk_fs_at _ c h)
theorem rk_pl_eq {R : Nat → Int32} {e : Int32} {c k : Nat} (h1 : k ≤ c) (h2 : ∀ j, j < k → ¬ R j = e) (h3 : k < c → R k = e) : rk_pl R e c = k :=
  rk_fs_eq h1 (fun j hj => decide_eq_false (h2 j hj)) (fun h => decide_eq_true (h3 h))
theorem rk_pl_lt {R : Nat → Int32} {e : Int32} {c k : Nat} (hk : k < c) (h : R k = e) : rk_pl R e c < c := by
  rcases Nat.lt_or_ge (rk_pl R e c) c with h1 | h1
  · exact h1
  · exact absurd h (rk_pl_no (Nat.lt_of_lt_of_le hk h1))
/-- the sum of the weights W of the first n entries of the row -/
def rk_sm (R W : Nat → Int32) : Nat → Int32
  | 0 => 0
  | n + 1 => rk_sm R W n + W (R n).toNatClampNeg
theorem rk_sm_s (R W : Nat → Int32) (n : Nat) : rk_sm R W n + W (R n).toNatClampNeg = rk_sm R W (n + 1) := rfl
/-- the first place at which rank q falls -/
def rk_fd (R F : Nat → Int32) (q : Int32) (c : Nat) : Nat := rk_fs (fun k => decide (q < rk_sm R F (k + 1))) c
theorem rk_fd_le (R F : Nat → Int32) (q : Int32) (c : Nat) : rk_fd R F q c ≤ c := rk_fs_le _ c
theorem rk_fd_eq {R F : Nat → Int32} {q : Int32} {c k : Nat} (h1 : k ≤ c) (h2 : ∀ j, j < k → ¬ q < rk_sm R F (j + 1)) (h3 : k < c → q < rk_sm R F (k + 1)) : rk_fd R F q c = k :=
  rk_fs_eq h1 (fun j hj => decide_eq_false (h2 j hj)) (fun h => decide_eq_true (h3 h))
/-- n entries more, from number c on, put at place p -/
def rk_in (R : Nat → Int32) (c p n : Nat) : Nat → Int32 := fun j => if j < p then R j else if j < p + n then nI (c + (j - p)) else if j < c + n then R (j - n) else R j
/-- their weights -/
def rk_fl (F : Nat → Int32) (c n : Nat) (w : Int32) : Nat → Int32 := fun j => if c ≤ j ∧ j < c + n then w else F j
theorem rk_in_0 (R : Nat → Int32) (c p : Nat) : rk_in R c p 0 = R := by
  funext j
  unfold rk_in
  by_cases h1 : j < p
  · rw [if_pos h1]
  · rw [if_neg h1, if_neg (by omega)]
    by_cases h2 : j < c + 0
    · rw [if_pos h2, Nat.sub_zero]
    · rw [if_neg h2]
theorem rk_in_s (R : Nat → Int32) {c p : Nat} (k : Nat) (hp : p ≤ c) : rk_in (rk_in R c p k) (c + k) (p + k) 1 = rk_in R c p (k + 1) := by
  funext j
  unfold rk_in
  by_cases h1 : j < p
  · rw [if_pos (show j < p + k by omega), if_pos h1, if_pos h1]
  · by_cases h2 : j < p + k
    · rw [if_pos h2, if_neg h1, if_pos h2, if_neg h1, if_pos (show j < p + (k + 1) by omega)]
    · by_cases h3 : j < p + k + 1
      · rw [if_neg h2, if_pos h3, if_neg h1, if_pos (show j < p + (k + 1) by omega)]
        rw [show c + k + (j - (p + k)) = c + (j - p) by omega]
      · by_cases h4 : j < c + k + 1
        · rw [if_neg h2, if_neg h3, if_pos h4, if_neg h1, if_neg (show ¬ j < p + (k + 1) by omega), if_pos (show j < c + (k + 1) by omega), if_neg (show ¬ j - 1 < p by omega), if_neg (show ¬ j - 1 < p + k by omega), if_pos (show j - 1 < c + k by omega)]
          rw [show j - 1 - k = j - (k + 1) by omega]
        · rw [if_neg h2, if_neg h3, if_neg h4, if_neg h1, if_neg h2, if_neg (show ¬ j < c + k by omega), if_neg h1, if_neg (show ¬ j < p + (k + 1) by omega), if_neg (show ¬ j < c + (k + 1) by omega)]
theorem rk_fl_0 (F : Nat → Int32) (c : Nat) (w : Int32) : rk_fl F c 0 w = F := by
  funext j
  unfold rk_fl
  rw [if_neg (by omega)]
theorem rk_fl_s (F : Nat → Int32) (c k : Nat) (w : Int32) : upd (rk_fl F c k w) (c + k) w = rk_fl F c (k + 1) w := by
  funext j
  by_cases h1 : j = c + k
  · subst h1
    rw [pk_us]
    unfold rk_fl
    rw [if_pos (by omega)]
  · rw [pk_un h1]
    unfold rk_fl
    by_cases h2 : c ≤ j ∧ j < c + k
    · rw [if_pos h2, if_pos (by omega)]
    · rw [if_neg h2, if_neg (by omega)]
theorem rk_fl_1 (F : Nat → Int32) (c : Nat) (w : Int32) : upd F c w = rk_fl F c 1 w := by
  have h := rk_fl_s F c 0 w
  rw [rk_fl_0, Nat.add_zero] at h
  exact h
theorem rk_fl_t (F : Nat → Int32) (c k : Nat) (w : Int32) : rk_fl (rk_fl F c k w) (c + k) 1 w = rk_fl F c (k + 1) w := by
  rw [← rk_fl_1, rk_fl_s]
/-- the class's way: a stretch is copied, then one entry after the other is written -/
def rk_pu (R : Nat → Int32) (c p n i : Nat) : Nat → Int32 := fun j => if p ≤ j ∧ j < p + i then nI (c + (j - p)) else va_cpy R R p (p + n) (c - p) j
theorem rk_pu_0 (R : Nat → Int32) (c p n : Nat) : va_cpy R R p (p + n) (c - p) = rk_pu R c p n 0 := by
  funext j
  unfold rk_pu
  rw [if_neg (by omega)]
theorem rk_pu_s (R : Nat → Int32) (c p n i : Nat) : upd (rk_pu R c p n i) (p + i) (nI (c + i)) = rk_pu R c p n (i + 1) := by
  funext j
  by_cases h1 : j = p + i
  · subst h1
    rw [pk_us]
    unfold rk_pu
    rw [if_pos (by omega), show c + (p + i - p) = c + i by omega]
  · rw [pk_un h1]
    unfold rk_pu
    by_cases h2 : p ≤ j ∧ j < p + i
    · rw [if_pos h2, if_pos (by omega)]
    · rw [if_neg h2, if_neg (by omega)]
theorem rk_pu_n (R : Nat → Int32) {c p : Nat} (n : Nat) (hp : p ≤ c) : rk_pu R c p n n = rk_in R c p n := by
  funext j
  unfold rk_pu rk_in
  by_cases h1 : j < p
  · rw [if_pos h1, if_neg (by omega), pk_cpy_out (by omega)]
  · by_cases h2 : j < p + n
    · rw [if_neg h1, if_pos h2, if_pos (by omega)]
    · by_cases h3 : j < c + n
      · rw [if_neg h1, if_neg h2, if_pos h3, if_neg (by omega), pk_cpy_in (by omega) (by omega), show p + (j - (p + n)) = j - n by omega]
      · rw [if_neg h1, if_neg h2, if_neg h3, if_neg (by omega), pk_cpy_out (by omega)]
/-- the reference's way: one entry, the others moved one by one from the end -/
def rk_sh (R : Nat → Int32) (c k : Nat) : Nat → Int32 := fun j => if k < j ∧ j ≤ c then R (j - 1) else R j
theorem rk_sh_c (R : Nat → Int32) (c : Nat) : rk_sh R c c = R := by
  funext j
  unfold rk_sh
  rw [if_neg (by omega)]
theorem rk_sh_r (R : Nat → Int32) (c k : Nat) : rk_sh R c (k + 1) k = R k := by
  unfold rk_sh
  rw [if_neg (by omega)]
theorem rk_sh_s (R : Nat → Int32) {c k : Nat} (h : k + 1 ≤ c) : upd (rk_sh R c (k + 1)) (k + 1) (rk_sh R c (k + 1) k) = rk_sh R c k := by
  rw [rk_sh_r]
  funext j
  by_cases h1 : j = k + 1
  · subst h1
    rw [pk_us]
    unfold rk_sh
    rw [if_pos (by omega), Nat.add_sub_cancel]
  · rw [pk_un h1]
    unfold rk_sh
    by_cases h2 : k + 1 < j ∧ j ≤ c
    · rw [if_pos h2, if_pos (by omega)]
    · rw [if_neg h2, if_neg (by omega)]
theorem rk_sh_p (R : Nat → Int32) {c p : Nat} (h : p ≤ c) : upd (rk_sh R c p) p (nI c) = rk_in R c p 1 := by
  funext j
  unfold rk_in
  by_cases h1 : j = p
  · subst h1
    rw [pk_us, if_neg (by omega), if_pos (by omega), Nat.sub_self, Nat.add_zero]
  · rw [pk_un h1]
    unfold rk_sh
    by_cases h2 : j < p
    · rw [if_pos h2, if_neg (by omega)]
    · rw [if_neg h2, if_neg (show ¬ j < p + 1 by omega)]
      by_cases h3 : j < c + 1
      · rw [if_pos h3, if_pos (show p < j ∧ j ≤ c by omega)]
      · rw [if_neg h3, if_neg (show ¬ (p < j ∧ j ≤ c) by omega)]
/-- the row holds each of the c entries -/
def rk_ok (R : Nat → Int32) (c : Nat) : Prop := c ≤ 4000 ∧ (∀ k, k < c → ∃ e, e < c ∧ R k = nI e) ∧ ∀ e, e < c → ∃ k, k < c ∧ R k = nI e
theorem rk_ok_0 (R : Nat → Int32) : rk_ok R 0 := ⟨Nat.zero_le _, fun k h => absurd h (Nat.not_lt_zero k), fun e h => absurd h (Nat.not_lt_zero e)⟩
theorem rk_ok_in {R : Nat → Int32} {c p n : Nat} (h : rk_ok R c) (hp : p ≤ c) (hn : c + n ≤ 4000) : rk_ok (rk_in R c p n) (c + n) := by
  obtain ⟨h0, h1, h2⟩ := h
  refine ⟨hn, fun k hk => ?_, fun e he => ?_⟩
  · unfold rk_in
    by_cases g1 : k < p
    · rw [if_pos g1]
      obtain ⟨e, a, b⟩ := h1 k (by omega)
      exact ⟨e, by omega, b⟩
    · rw [if_neg g1]
      by_cases g2 : k < p + n
      · rw [if_pos g2]
        exact ⟨c + (k - p), by omega, rfl⟩
      · rw [if_neg g2, if_pos hk]
        obtain ⟨e, a, b⟩ := h1 (k - n) (by omega)
        exact ⟨e, by omega, b⟩
  · by_cases g1 : e < c
    · obtain ⟨k, a, b⟩ := h2 e g1
      by_cases g2 : k < p
      · refine ⟨k, by omega, ?_⟩
        unfold rk_in
        rw [if_pos g2]
        exact b
      · refine ⟨k + n, by omega, ?_⟩
        unfold rk_in
        rw [if_neg (by omega), if_neg (by omega), if_pos (by omega), Nat.add_sub_cancel]
        exact b
    · refine ⟨p + (e - c), by omega, ?_⟩
      unfold rk_in
      rw [if_neg (by omega), if_pos (by omega), show c + (p + (e - c) - p) = e by omega]
theorem rk_pl_in {R : Nat → Int32} {c j : Nat} (h : rk_ok R c) (hj : j < c) : rk_pl R (nI j) c < c := by
  obtain ⟨k, a, b⟩ := h.2.2 j hj
  exact rk_pl_lt a b
theorem rk_pl_m1 {R : Nat → Int32} {c : Nat} (h : rk_ok R c) : rk_pl R (-1) c = c := by
  refine rk_pl_eq (Nat.le_refl _) (fun j hj => ?_) (fun h => absurd h (Nat.lt_irrefl _))
  obtain ⟨e, a, b⟩ := h.2.1 j hj
  have h4 := h.1
  rw [b]
  intro q
  have q1 : (nI e).toInt = (-1 : Int32).toInt := by rw [q]
  rw [nI_toInt (by omega)] at q1
  have q2 : (-1 : Int32).toInt = -1 := by decide
  omega
/-- numbers -/
theorem rk_c31 {c : Nat} (h : c ≤ 4000) : c < 2 ^ 31 := by omega
theorem rk_cl (n : Nat) (h : n ≤ 4000) : (nI n).toNatClampNeg = n := nI_clamp (by omega)
theorem rk_nn {x : Int32} (h : 0 ≤ x) : ¬ x < 0 := fun q => by
  have a := Int32.le_iff_toInt_le.mp h
  have b := Int32.lt_iff_toInt_lt.mp q
  omega
theorem rk_le {x : Int32} (h : ¬ x < 0) : 0 ≤ x := Int32.le_iff_toInt_le.mpr (by
  have b : ¬ x.toInt < (0 : Int32).toInt := fun q => h (Int32.lt_iff_toInt_lt.mpr q)
  omega)
/-- a weight; an entry that there is -/
abbrev rk_W (w : Int32) : Prop := ¬ w < 0 ∧ ¬ 1000 < w
abbrev rk_E (e : Int32) (c : Nat) : Prop := ¬ e < 0 ∧ e < nI c
/-- an entry that there is -/
theorem rk_ent {e : Int32} {c : Nat} (hc : c ≤ 4000) (h0 : ¬ e < 0) (h1 : e < nI c) : ∃ j, j < c ∧ e = nI j := by
  obtain ⟨j, a, rfl⟩ := nI_of h0
  exact ⟨j, (nI_ltI a (by omega)).mp h1, rfl⟩
theorem rk_entc {e : Int32} {c : Nat} (hc : c ≤ 4000) (h : rk_E e c) : e.toNatClampNeg < c ∧ e = nI e.toNatClampNeg := by
  obtain ⟨j, a, rfl⟩ := rk_ent hc h.1 h.2
  rw [nI_clamp (n := j) (by omega)]
  exact ⟨a, rfl⟩
/-- n entries at once -/
theorem rk_num {n : Int32} (h0 : ¬ n < 1) (h1 : n ≤ 200) : 1 ≤ n.toNatClampNeg ∧ n.toNatClampNeg ≤ 200 ∧ n = nI n.toNatClampNeg := by
  have a : ¬ n.toInt < (1 : Int32).toInt := fun q => h0 (Int32.lt_iff_toInt_lt.mpr q)
  have a1 : (1 : Int32).toInt = 1 := by decide
  have b : n.toInt ≤ (200 : Int32).toInt := Int32.le_iff_toInt_le.mp h1
  have b1 : (200 : Int32).toInt = 200 := by decide
  have z : (0 : Int32).toInt = 0 := by decide
  obtain ⟨j, hj, rfl⟩ := nI_of (x := n) (fun q => by have := Int32.lt_iff_toInt_lt.mp q; omega)
  rw [nI_toInt hj] at a b
  rw [nI_clamp hj]
  exact ⟨by omega, by omega, rfl⟩
theorem rk_4000 : (4000 : Int32) = nI 4000 := by decide
theorem rk_1 : (1 : Int32) = nI 1 := by decide
theorem rk_0 : (0 : Int32) = nI 0 := by decide
/-- the place behind one -/
def rk_pb (R : Nat → Int32) (e : Int32) (c : Nat) : Nat := if e = -1 then 0 else rk_pl R e c + 1
/-- what a call throws: 1 IllegalArgumentException, 2 NoSuchElementException, 3 IllegalStateException, 0 nothing -/
def rk_kB (e n w v : Int32) (c : Nat) : Nat := if (¬ n < 1 ∧ n ≤ 200) ∧ rk_W w ∧ rk_W v then (if e = -1 ∨ rk_E e c then (if c + n.toNatClampNeg ≤ 4000 then 0 else 3) else 2) else 1
def rk_kF (e w v : Int32) (c : Nat) : Nat := if rk_W w ∧ rk_W v then (if rk_E e c then (if c + 1 ≤ 4000 then 0 else 3) else 2) else 1
def rk_kW (e w v : Int32) (c : Nat) : Nat := if rk_W w ∧ rk_W v then (if rk_E e c then 0 else 2) else 1
def rk_kD (R F : Nat → Int32) (q : Int32) (c : Nat) : Nat := if ¬ q < 0 ∧ rk_fd R F q c < c then 0 else 2
def rk_kS (e z : Int32) (c : Nat) : Nat := if z = 0 ∨ z = 1 then (if e = -1 ∨ rk_E e c then 0 else 2) else 1
def rk_kN (R : Nat → Int32) (e : Int32) (c : Nat) : Nat := if (e = -1 ∨ rk_E e c) ∧ rk_pb R e c < c then 0 else 2
def rk_kP (e : Int32) (c : Nat) : Nat := if rk_E e c then 0 else 2
theorem rk_pb_m (R : Nat → Int32) (c : Nat) : rk_pb R (-1) c = 0 := if_pos rfl
theorem rk_pb_n {R : Nat → Int32} {e : Int32} {c : Nat} (h : ¬ e = -1) : rk_pb R e c = rk_pl R e c + 1 := if_neg h
theorem rk_m1_neg : (-1 : Int32) < 0 := by decide
theorem rk_E_m1 {c : Nat} : ¬ rk_E (-1) c := fun h => h.1 rk_m1_neg
theorem rk_ne_m1 {e : Int32} (h : ¬ e < 0) : ¬ e = -1 := fun q => h (by rw [q]; exact rk_m1_neg)
theorem rk_pb_le {R : Nat → Int32} {e : Int32} {c : Nat} (hR : rk_ok R c) (h : e = -1 ∨ rk_E e c) : rk_pb R e c ≤ c := by
  rcases h with h | h
  · subst h
    rw [rk_pb_m]
    exact Nat.zero_le _
  · obtain ⟨j, hj, rfl⟩ := rk_ent hR.1 h.1 h.2
    rw [rk_pb_n (rk_ne_m1 h.1)]
    exact rk_pl_in hR hj
theorem rk_kB_1 {e n w v : Int32} {c : Nat} (h : ¬ ((¬ n < 1 ∧ n ≤ 200) ∧ rk_W w ∧ rk_W v)) : rk_kB e n w v c = 1 := by unfold rk_kB; rw [if_neg h]
theorem rk_kB_2 {e n w v : Int32} {c : Nat} (h : (¬ n < 1 ∧ n ≤ 200) ∧ rk_W w ∧ rk_W v) (h2 : ¬ (e = -1 ∨ rk_E e c)) : rk_kB e n w v c = 2 := by unfold rk_kB; rw [if_pos h, if_neg h2]
theorem rk_kB_3 {e n w v : Int32} {c : Nat} (h : (¬ n < 1 ∧ n ≤ 200) ∧ rk_W w ∧ rk_W v) (h2 : e = -1 ∨ rk_E e c) (h3 : ¬ c + n.toNatClampNeg ≤ 4000) : rk_kB e n w v c = 3 := by unfold rk_kB; rw [if_pos h, if_pos h2, if_neg h3]
theorem rk_kB_0 {e n w v : Int32} {c : Nat} (h : (¬ n < 1 ∧ n ≤ 200) ∧ rk_W w ∧ rk_W v) (h2 : e = -1 ∨ rk_E e c) (h3 : c + n.toNatClampNeg ≤ 4000) : rk_kB e n w v c = 0 := by unfold rk_kB; rw [if_pos h, if_pos h2, if_pos h3]
theorem rk_kF_1 {e w v : Int32} {c : Nat} (h : ¬ (rk_W w ∧ rk_W v)) : rk_kF e w v c = 1 := by unfold rk_kF; rw [if_neg h]
theorem rk_kF_2 {e w v : Int32} {c : Nat} (h : rk_W w ∧ rk_W v) (h2 : ¬ rk_E e c) : rk_kF e w v c = 2 := by unfold rk_kF; rw [if_pos h, if_neg h2]
theorem rk_kF_3 {e w v : Int32} {c : Nat} (h : rk_W w ∧ rk_W v) (h2 : rk_E e c) (h3 : ¬ c + 1 ≤ 4000) : rk_kF e w v c = 3 := by unfold rk_kF; rw [if_pos h, if_pos h2, if_neg h3]
theorem rk_kF_0 {e w v : Int32} {c : Nat} (h : rk_W w ∧ rk_W v) (h2 : rk_E e c) (h3 : c + 1 ≤ 4000) : rk_kF e w v c = 0 := by unfold rk_kF; rw [if_pos h, if_pos h2, if_pos h3]
theorem rk_kW_1 {e w v : Int32} {c : Nat} (h : ¬ (rk_W w ∧ rk_W v)) : rk_kW e w v c = 1 := by unfold rk_kW; rw [if_neg h]
theorem rk_kW_2 {e w v : Int32} {c : Nat} (h : rk_W w ∧ rk_W v) (h2 : ¬ rk_E e c) : rk_kW e w v c = 2 := by unfold rk_kW; rw [if_pos h, if_neg h2]
theorem rk_kW_0 {e w v : Int32} {c : Nat} (h : rk_W w ∧ rk_W v) (h2 : rk_E e c) : rk_kW e w v c = 0 := by unfold rk_kW; rw [if_pos h, if_pos h2]
theorem rk_kD_2 {R F : Nat → Int32} {q : Int32} {c : Nat} (h : ¬ (¬ q < 0 ∧ rk_fd R F q c < c)) : rk_kD R F q c = 2 := by unfold rk_kD; rw [if_neg h]
theorem rk_kD_0 {R F : Nat → Int32} {q : Int32} {c : Nat} (h : ¬ q < 0 ∧ rk_fd R F q c < c) : rk_kD R F q c = 0 := by unfold rk_kD; rw [if_pos h]
theorem rk_kS_1 {e z : Int32} {c : Nat} (h : ¬ (z = 0 ∨ z = 1)) : rk_kS e z c = 1 := by unfold rk_kS; rw [if_neg h]
theorem rk_kS_2 {e z : Int32} {c : Nat} (h : z = 0 ∨ z = 1) (h2 : ¬ (e = -1 ∨ rk_E e c)) : rk_kS e z c = 2 := by unfold rk_kS; rw [if_pos h, if_neg h2]
theorem rk_kS_0 {e z : Int32} {c : Nat} (h : z = 0 ∨ z = 1) (h2 : e = -1 ∨ rk_E e c) : rk_kS e z c = 0 := by unfold rk_kS; rw [if_pos h, if_pos h2]
theorem rk_kN_2 {R : Nat → Int32} {e : Int32} {c : Nat} (h : ¬ ((e = -1 ∨ rk_E e c) ∧ rk_pb R e c < c)) : rk_kN R e c = 2 := by unfold rk_kN; rw [if_neg h]
theorem rk_kN_0 {R : Nat → Int32} {e : Int32} {c : Nat} (h : (e = -1 ∨ rk_E e c) ∧ rk_pb R e c < c) : rk_kN R e c = 0 := by unfold rk_kN; rw [if_pos h]
theorem rk_kP_2 {e : Int32} {c : Nat} (h : ¬ rk_E e c) : rk_kP e c = 2 := by unfold rk_kP; rw [if_neg h]
theorem rk_kP_0 {e : Int32} {c : Nat} (h : rk_E e c) : rk_kP e c = 0 := by unfold rk_kP; rw [if_pos h]
theorem rk_pl_E {R : Nat → Int32} {e : Int32} {c : Nat} (hR : rk_ok R c) (h : rk_E e c) : rk_pl R e c < c := by
  obtain ⟨j, hj, rfl⟩ := rk_ent hR.1 h.1 h.2
  exact rk_pl_in hR hj
theorem rk_end {R : Nat → Int32} {e : Int32} {c : Nat} (hR : rk_ok R c) : (if e = -1 then c else rk_pl R e c) = rk_pl R e c := by
  by_cases h : e = -1
  · rw [if_pos h, h, rk_pl_m1 hR]
  · rw [if_neg h]
theorem rk_kB_r (e n w v : Int32) (c : Nat) : rk_kB e n w v c = 0 ∨ rk_kB e n w v c = 1 ∨ rk_kB e n w v c = 2 ∨ rk_kB e n w v c = 3 := by
  by_cases h1 : (¬ n < 1 ∧ n ≤ 200) ∧ rk_W w ∧ rk_W v
  · by_cases h2 : e = -1 ∨ rk_E e c
    · by_cases h3 : c + n.toNatClampNeg ≤ 4000
      · exact Or.inl (rk_kB_0 h1 h2 h3)
      · exact Or.inr (Or.inr (Or.inr (rk_kB_3 h1 h2 h3)))
    · exact Or.inr (Or.inr (Or.inl (rk_kB_2 h1 h2)))
  · exact Or.inr (Or.inl (rk_kB_1 h1))
theorem rk_kF_r (e w v : Int32) (c : Nat) : rk_kF e w v c = 0 ∨ rk_kF e w v c = 1 ∨ rk_kF e w v c = 2 ∨ rk_kF e w v c = 3 := by
  by_cases h1 : rk_W w ∧ rk_W v
  · by_cases h2 : rk_E e c
    · by_cases h3 : c + 1 ≤ 4000
      · exact Or.inl (rk_kF_0 h1 h2 h3)
      · exact Or.inr (Or.inr (Or.inr (rk_kF_3 h1 h2 h3)))
    · exact Or.inr (Or.inr (Or.inl (rk_kF_2 h1 h2)))
  · exact Or.inr (Or.inl (rk_kF_1 h1))
theorem rk_kW_r (e w v : Int32) (c : Nat) : rk_kW e w v c = 0 ∨ rk_kW e w v c = 1 ∨ rk_kW e w v c = 2 := by
  by_cases h1 : rk_W w ∧ rk_W v
  · by_cases h2 : rk_E e c
    · exact Or.inl (rk_kW_0 h1 h2)
    · exact Or.inr (Or.inr (rk_kW_2 h1 h2))
  · exact Or.inr (Or.inl (rk_kW_1 h1))
theorem rk_kS_r (e z : Int32) (c : Nat) : rk_kS e z c = 0 ∨ rk_kS e z c = 1 ∨ rk_kS e z c = 2 := by
  by_cases h1 : z = 0 ∨ z = 1
  · by_cases h2 : e = -1 ∨ rk_E e c
    · exact Or.inl (rk_kS_0 h1 h2)
    · exact Or.inr (Or.inr (rk_kS_2 h1 h2))
  · exact Or.inr (Or.inl (rk_kS_1 h1))
theorem rk_kD_r (R F : Nat → Int32) (q : Int32) (c : Nat) : rk_kD R F q c = 0 ∨ rk_kD R F q c = 2 := by
  by_cases h : ¬ q < 0 ∧ rk_fd R F q c < c
  · exact Or.inl (rk_kD_0 h)
  · exact Or.inr (rk_kD_2 h)
theorem rk_kN_r (R : Nat → Int32) (e : Int32) (c : Nat) : rk_kN R e c = 0 ∨ rk_kN R e c = 2 := by
  by_cases h : (e = -1 ∨ rk_E e c) ∧ rk_pb R e c < c
  · exact Or.inl (rk_kN_0 h)
  · exact Or.inr (rk_kN_2 h)
theorem rk_kP_r (e : Int32) (c : Nat) : rk_kP e c = 0 ∨ rk_kP e c = 2 := by
  by_cases h : rk_E e c
  · exact Or.inl (rk_kP_0 h)
  · exact Or.inr (rk_kP_2 h)
theorem rk_kB_i {e n w v : Int32} {c : Nat} (h : rk_kB e n w v c = 0) : (e = -1 ∨ rk_E e c) ∧ c + n.toNatClampNeg ≤ 4000 := by
  by_cases h1 : (¬ n < 1 ∧ n ≤ 200) ∧ rk_W w ∧ rk_W v
  · by_cases h2 : e = -1 ∨ rk_E e c
    · by_cases h3 : c + n.toNatClampNeg ≤ 4000
      · exact ⟨h2, h3⟩
      · rw [rk_kB_3 h1 h2 h3] at h
        cases h
    · rw [rk_kB_2 h1 h2] at h
      cases h
  · rw [rk_kB_1 h1] at h
    cases h
theorem rk_kF_i {e w v : Int32} {c : Nat} (h : rk_kF e w v c = 0) : c + 1 ≤ 4000 := by
  by_cases h1 : rk_W w ∧ rk_W v
  · by_cases h2 : rk_E e c
    · by_cases h3 : c + 1 ≤ 4000
      · exact h3
      · rw [rk_kF_3 h1 h2 h3] at h
        cases h
    · rw [rk_kF_2 h1 h2] at h
      cases h
  · rw [rk_kF_1 h1] at h
    cases h
/-- a number that was thrown isn't 0 -/
theorem rk_nz {k : Nat} (h : k = 0 ∨ k = 1 ∨ k = 2 ∨ k = 3) (h0 : k ≠ 0) : ¬ nI k = 0 := nI_ne0 (by omega) (by omega)
theorem rk_nz2 {k : Nat} (h : k = 0 ∨ k = 1 ∨ k = 2) (h0 : k ≠ 0) : ¬ nI k = 0 := nI_ne0 (by omega) (by omega)
/-- the law's loop goes on while five numbers are left -/
theorem rk_five {L x : Nat} (hL : L ≤ 2560) (hx : x ≤ 2560) (h : ¬ nI L - 5 < nI x) : x + 5 ≤ L := by
  have a : ¬ (nI L - 5).toInt < (nI x).toInt := fun q => h (Int32.lt_iff_toInt_lt.mpr q)
  have b : (nI L - nI 5).toInt = (L : Int) - (5 : Nat) := pk_sub_toInt (by omega) (by omega)
  have b2 : (nI L - 5).toInt = (L : Int) - (5 : Nat) := b
  rw [b2, nI_toInt (by omega)] at a
  omega
end
section
/-! Rows of this claim's own form: what a call of the class or of the reference gives is fixed by the world before it. A contract says: from world w0 the method answers r and leaves world w1 (uI, uV), or throws an exception of class E and leaves w0 (uX), or one of both by a number k (uT). -/
/-- the exceptions by number: 1, 2, 3 -/
def xn (k : Nat) : String := if k = 1 then "java/lang/IllegalArgumentException" else if k = 2 then "java/util/NoSuchElementException" else "java/lang/IllegalStateException"
def xg_c : List String := ["java/lang/IllegalArgumentException", "java/util/NoSuchElementException", "java/lang/IllegalStateException"]
def xg_d : List MethodName := [⟨"java/lang/RuntimeException", "<init>", "(Ljava/lang/String;)V"⟩, ⟨"java/lang/Exception", "<init>", "(Ljava/lang/String;)V"⟩, ⟨"java/lang/Throwable", "<init>", "(Ljava/lang/String;)V"⟩, ⟨"java/lang/RuntimeException", "<init>", "()V"⟩, ⟨"java/lang/Exception", "<init>", "()V"⟩, ⟨"java/lang/Throwable", "<init>", "()V"⟩]
def xg_s : List (Nat × String) := [(25, "n is not in 1 .. 200"), (57, "a rank is not below 0"), (60, "the rank falls on no entry"), (62, "which is not 0 or 1"), (68, "no entry stands there"), (70, "a weight is not in 0 .. 1000"), (72, "there is no such entry"), (76, "there would be too many entries")]
/-- what a throw, and a catch, take of the start: two statics of Throwable outside A, words of the tables, the texts' places -/
def xg (ad : Nat → Nat) (A : Nat → Prop) (U : State) (H : Heap) : Prop :=
  (vx_Zq "java/lang/Throwable" "UNASSIGNED_STACK" "[Ljava/lang/StackTraceElement;" A U H ∧ vx_Zq "java/lang/Throwable" "SUPPRESSED_SENTINEL" "Ljava/util/List;" A U H) ∧
  (∀ q ∈ xg_c, va_Nw (.castable q q) U) ∧ (∀ y ∈ xg_d, va_Nw (.declares y) U) ∧
  (va_Nc "java/util/NoSuchElementException" "java/lang/IllegalArgumentException" U ∧ va_Nc "java/lang/IllegalStateException" "java/lang/IllegalArgumentException" U ∧ va_Nc "java/lang/IllegalStateException" "java/util/NoSuchElementException" U) ∧
  ∀ q ∈ xg_s, vk_R "RankRows" q.1 q.2 (ad q.1) U
theorem xg_go {ad : Nat → Nat} {A B : Nat → Prop} {s U : State} {H : Heap} {locs : List Loc} (hW : s.WarmedH U.vm) (h : xg ad A s s.heap) (hS : va_S A s.heap H locs) (hAB : ∀ q, B q → A q) : xg ad B U H := by
  obtain ⟨⟨h1, h2⟩, h3, h4, ⟨h5, h6, h7⟩, h8⟩ := h
  exact ⟨⟨((vx_Zq.moved hW.alike h1).kept hS.2.1).narrow hAB, ((vx_Zq.moved hW.alike h2).kept hS.2.1).narrow hAB⟩, fun q hq => va_Nw.warmC hW (h3 q hq), fun y hy => va_Nw.warmD hW (h4 y hy), ⟨va_Nc.moved hW.alike h5, va_Nc.moved hW.alike h6, va_Nc.moved hW.alike h7⟩, fun q hq => vk_R.warm hW (h8 q hq)⟩
def pr (D : va_G) (ad : Nat → Nat) (tys : List (ClassId × FieldType)) (ws : va_W) (sz : Nat) (U : State) : Prop := U.heap.size = sz ∧ va_P D vwD ws U.heap ∧ va_K D vwD tys U ∧ va_D (fun _ => True) ws ∧ xg ad (va_A ws sz) U U.heap
theorem pr_blind {D : va_G} {ad : Nat → Nat} {tys : List (ClassId × FieldType)} {ws : va_W} {sz : Nat} {av : List Value} : FrameBlind (va_Pc av (pr D ad tys ws sz)) := by
  intro a U g mk h
  obtain ⟨q0, q1, qP, qK, qD, qX⟩ := h
  exact ⟨q0, q1, qP, va_K.moved (u := U) (U := U.calling g mk a) (Vm.Alike.refl U.vm) qK, qD, xg_go (s := U) (U := U.calling g mk a) (locs := []) (State.WarmedH.refl U) qX va_S.rf (fun _ h => h)⟩
theorem pr_fr {A : Nat → Prop} {ws : va_W} {H0 H : Heap} {locs : List Loc} (hD : va_D A ws) (hS : va_S A H0 H locs) (hA : ∀ q, H0.size ≤ q → A q) : ∀ q, va_A ws H.size q → A q := by
  intro q h
  rcases h with ⟨k, e, h⟩ | h
  · exact hD.2 k (q, e) h
  · exact hA q (Nat.le_trans hS.1 h)
theorem pr_at {D : va_G} {ad : Nat → Nat} {tys : List (ClassId × FieldType)} {ws : va_W} {A : Nat → Prop} {s : State} {H : Heap} {locs : List Loc} (hP : va_P D vwD ws H) (hK : va_K D vwD tys s) (hD : va_D A ws) (hS : va_S A s.heap H locs) (hA : ∀ q, s.heap.size ≤ q → A q) (hX : xg ad A s s.heap) : ∀ U : State, U.heap = H → s.WarmedH U.vm → pr D ad tys ws H.size U := by
  intro U hU hW
  refine ⟨by rw [hU], by rw [hU]; exact hP, va_K.moved hW.alike hK, hD.weaken (fun _ _ _ _ => trivial), ?_⟩
  rw [hU]
  exact xg_go hW hX hS (pr_fr hD hS hA)
abbrev nS (D : va_G) (tys : List (ClassId × FieldType)) (A : Nat → Prop) (w1 : va_W) (t : State) : Prop := va_P D vwD w1 t.heap ∧ va_K D vwD tys t ∧ va_D A w1
abbrev qI (D : va_G) (tys : List (ClassId × FieldType)) (w1 : va_W) (r : Int32) (A : Nat → Prop) : Array Value → State → Outcome → State → Prop := va_Qi (fun r' (_ : Unit) => r' = r) (fun _ t => nS D tys A w1 t) A
abbrev qV (D : va_G) (tys : List (ClassId × FieldType)) (w1 : va_W) (A : Nat → Prop) : Array Value → State → Outcome → State → Prop := va_Qv (fun (_ : Unit) => True) (fun _ t => nS D tys A w1 t) A
abbrev qT (D : va_G) (tys : List (ClassId × FieldType)) (w1 : va_W) (k : Nat) (r : Int32) (A : Nat → Prop) : Array Value → State → Outcome → State → Prop := va_Qi (fun r' (_ : Unit) => k = 0 ∧ r' = r) (fun _ t => nS D tys A w1 t) A
abbrev xT (D : va_G) (tys : List (ClassId × FieldType)) (w0 : va_W) (k : Nat) (A : Nat → Prop) : String → State → State → Prop := vx_X (fun (_ : Unit) => True) (fun E _ t => (k ≠ 0 ∧ E = xn k) ∧ nS D tys A w0 t) A
abbrev qX (D : va_G) (tys : List (ClassId × FieldType)) (w0 : va_W) (A : Nat → Prop) : Array Value → State → Outcome → State → Prop := va_Qv (fun (_ : Unit) => False) (fun _ t => nS D tys A w0 t) A
abbrev qN {N3 : Type} (D : va_G) (tys : List (ClassId × FieldType)) (wf : N3 → va_W) (A : Nat → Prop) : Array Value → State → Outcome → State → Prop := va_Qv (fun (_ : N3) => True) (fun u t => nS D tys A (wf u) t) A
/-- the class's cells, and what else there is; the reference's, behind five others -/
abbrev wX (h r f s : Nat) (cI : ClassId) (R F S : Nat → Int32) (cn : Nat) (tl : va_W) : va_W := (h, .inr (0, [.ref r, .ref f, .ref s, .int (nI cn)])) :: (r, .inl (cI, 4000, .inl R)) :: (f, .inl (cI, 4000, .inl F)) :: (s, .inl (cI, 4000, .inl S)) :: tl
abbrev wM (p0 p1 p2 p3 p4 : Nat × va_E) (h r f s : Nat) (cI : ClassId) (R F S : Nat → Int32) (cn : Nat) (th : Int32) : va_W := p0 :: p1 :: p2 :: p3 :: p4 :: (h, .inr (1, [.ref r, .ref f, .ref s, .int (nI cn), .int th])) :: (r, .inl (cI, 4000, .inl R)) :: (f, .inl (cI, 4000, .inl F)) :: (s, .inl (cI, 4000, .inl S)) :: []
def uI (l : Launch) (y : MethodName) (wy : List Cond) (rm : Room) (D : va_G) (ad : Nat → Nat) (tys : List (ClassId × FieldType)) (av : List Value) (w0 w1 : va_W) (r : Int32) (mc ms : Nat) : Prop := ∀ sz : Nat, Met l y wy rm (va_Pc av (pr D ad tys w0 sz)) (qI D tys w1 r (va_A w0 sz)) mc ms (va_A w0 sz)
def uV (l : Launch) (y : MethodName) (wy : List Cond) (rm : Room) (D : va_G) (ad : Nat → Nat) (tys : List (ClassId × FieldType)) (av : List Value) (w0 w1 : va_W) (mc ms : Nat) : Prop := ∀ sz : Nat, Met l y wy rm (va_Pc av (pr D ad tys w0 sz)) (qV D tys w1 (va_A w0 sz)) mc ms (va_A w0 sz)
def uT (l : Launch) (y : MethodName) (wy : List Cond) (rm : Room) (D : va_G) (ad : Nat → Nat) (tys : List (ClassId × FieldType)) (av : List Value) (w0 w1 : va_W) (k : Nat) (r : Int32) : Prop := ∀ sz : Nat, vx_Met l y wy rm (va_Pc av (pr D ad tys w0 sz)) (qT D tys w1 k r (va_A w0 sz)) (xT D tys w0 k (va_A w0 sz)) 1 6 (va_A w0 sz)
def uX (l : Launch) (y : MethodName) (wy : List Cond) (rm : Room) (D : va_G) (ad : Nat → Nat) (tys : List (ClassId × FieldType)) (av : List Value) (w0 : va_W) (k : Nat) : Prop := ∀ sz : Nat, vx_Met l y wy rm (va_Pc av (pr D ad tys w0 sz)) (qX D tys w0 (va_A w0 sz)) (xT D tys w0 k (va_A w0 sz)) 1 6 (va_A w0 sz)
/-- a contract's start: what holds at a body's entry -/
theorem st_M {l : Launch} {y : MethodName} {wy wy' : List Cond} {rm : Room} {D : va_G} {ad : Nat → Nat} {tys : List (ClassId × FieldType)} {w0 : va_W} {Qc : (Nat → Prop) → Array Value → State → Outcome → State → Prop} {mc ms : Nat} {cc : ByteArray} {maxL : Nat} {ret : Option FieldType} (av : List Value) (hy : plainName y.cls = true) (hw : wy = Cond.code y cc maxL ret :: wy') (hz : (lg_sl av).length ≤ maxL)
    (body : ∀ (p : Program) (en : Env) (s : State) (m : MethodId) (below : List Frame) (meth : Method) (c : Code) (A : Nat → Prop) (ls : Array Slot), p.tables.exec = Jvm.exec → c.code = cc → meth.sig.returnType = ret → meth.locks = false → c.maxLocals = maxL → (∀ w ∈ wy, w.before av.toArray s = true) → s.vm.findClass y.cls = some m.cls → (∀ q, s.heap.size ≤ q → A q) → va_S A s.heap s.heap [] → va_P D vwD w0 s.heap → va_K D vwD tys s → va_D A w0 → xg ad A s s.heap → lv_has ls maxL (lv_args 0 av) →
      W p l en rm s m av.toArray below meth c s.heap [] 0 0 (MQ below (Qc A) av.toArray s mc ms A) (F0 m 0 ls [])) : ∀ sz : Nat, Met l y wy rm (va_Pc av (pr D ad tys w0 sz)) (Qc (va_A w0 sz)) mc ms (va_A w0 sz) := by
  intro sz
  refine Met.ofW (cc := cc) (maxL := maxL) (ret := ret) hy hw ?_
  intro p en s m args below meth c s₁ B hml hv
  obtain ⟨rfl, hsz, hP, hK, hD0, hX⟩ := hv
  subst hsz
  have hl := lv_entry av (n := maxL) hz
  rw [lg_entry_eq]
  exact body p en s m below meth c (va_A w0 s.heap.size) _ B.exec B.bytes B.returns B.notSynchronized hml (atoms_spec (ws := wy) B.pre) (findClass_of_methodNamed B.named) (fun q h => Or.inr h) va_S.rf hP hK hD0.self hX hl
/-- a constructor's -/
theorem st_N {l : Launch} {y : MethodName} {wy wy' : List Cond} {rm : Room} {D : va_G} {ad : Nat → Nat} {tys : List (ClassId × FieldType)} {w0 : va_W} {Qc : (Nat → Prop) → Array Value → State → Outcome → State → Prop} {mc ms : Nat} {cc : ByteArray} {maxL : Nat} {ret : Option FieldType} (av : List Value) (hy : plainName y.cls = true) (hw : wy = Cond.code y cc maxL ret :: wy') (hz : (lg_sl av).length ≤ maxL)
    (body : ∀ (p : Program) (en : Env) (s : State) (m : MethodId) (below : List Frame) (meth : Method) (c : Code) (A : Nat → Prop) (ls : Array Slot), meth.name = y.name → p.tables.exec = Jvm.exec → c.code = cc → meth.sig.returnType = ret → meth.locks = false → c.maxLocals = maxL → (∀ w ∈ wy, w.before av.toArray s = true) → s.vm.findClass y.cls = some m.cls → (∀ q, s.heap.size ≤ q → A q) → va_S A s.heap s.heap [] → va_P D vwD w0 s.heap → va_K D vwD tys s → va_D A w0 → xg ad A s s.heap → lv_has ls maxL (lv_args 0 av) →
      W p l en rm s m av.toArray below meth c s.heap [] 0 0 (MQ below (Qc A) av.toArray s mc ms A) (F0 m 0 ls [])) : ∀ sz : Nat, Met l y wy rm (va_Pc av (pr D ad tys w0 sz)) (Qc (va_A w0 sz)) mc ms (va_A w0 sz) := by
  intro sz
  refine Met.ofW (cc := cc) (maxL := maxL) (ret := ret) hy hw ?_
  intro p en s m args below meth c s₁ B hml hv
  obtain ⟨rfl, hsz, hP, hK, hD0, hX⟩ := hv
  subst hsz
  have hl := lv_entry av (n := maxL) hz
  rw [lg_entry_eq]
  exact body p en s m below meth c (va_A w0 s.heap.size) _ (name_of_methodNamed B.named B.method).1 B.exec B.bytes B.returns B.notSynchronized hml (atoms_spec (ws := wy) B.pre) (findClass_of_methodNamed B.named) (fun q h => Or.inr h) va_S.rf hP hK hD0.self hX hl
theorem st_W {l : Launch} {y : MethodName} {wy wy' : List Cond} {rm : Room} {D : va_G} {ad : Nat → Nat} {tys : List (ClassId × FieldType)} {w0 : va_W} {Qc : (Nat → Prop) → Array Value → State → Outcome → State → Prop} {mc ms : Nat} {cc : ByteArray} {maxL : Nat} {ret : Option FieldType} {hh : List (Nat × Nat × Nat × Nat)} (av : List Value) (hy : plainName y.cls = true) (hw : wy = Cond.codeWith y cc maxL ret hh :: wy') (hz : (lg_sl av).length ≤ maxL)
    (body : ∀ (p : Program) (en : Env) (s : State) (m : MethodId) (below : List Frame) (meth : Method) (c : Code) (A : Nat → Prop) (ls : Array Slot), c.exceptionTable.toList = tableOf hh → p.tables.exec = Jvm.exec → c.code = cc → meth.sig.returnType = ret → meth.locks = false → c.maxLocals = maxL → (∀ w ∈ wy, w.before av.toArray s = true) → s.vm.findClass y.cls = some m.cls → (∀ q, s.heap.size ≤ q → A q) → va_S A s.heap s.heap [] → va_P D vwD w0 s.heap → va_K D vwD tys s → va_D A w0 → xg ad A s s.heap → lv_has ls maxL (lv_args 0 av) →
      W p l en rm s m av.toArray below meth c s.heap [] 0 0 (MQ below (Qc A) av.toArray s mc ms A) (F0 m 0 ls [])) : ∀ sz : Nat, Met l y wy rm (va_Pc av (pr D ad tys w0 sz)) (Qc (va_A w0 sz)) mc ms (va_A w0 sz) := by
  intro sz
  refine va_MetW (hh := hh) (cc := cc) (maxL := maxL) (ret := ret) hy hw ?_
  intro p en s m args below meth c s₁ B hml hv
  obtain ⟨rfl, hsz, hP, hK, hD0, hX⟩ := hv
  subst hsz
  have hl := lv_entry av (n := maxL) hz
  have hts := atoms_spec (ws := wy) B.pre
  rw [lg_entry_eq]
  exact body p en s m below meth c (va_A w0 s.heap.size) _ (vx_table (x := y) B (hts (Cond.codeWith y cc maxL ret hh) (by rw [hw]; exact List.mem_cons_self))) B.exec B.bytes B.returns B.notSynchronized hml hts (findClass_of_methodNamed B.named) (fun q h => Or.inr h) va_S.rf hP hK hD0.self hX hl
theorem st_T {l : Launch} {y : MethodName} {wy wy' : List Cond} {rm : Room} {D : va_G} {ad : Nat → Nat} {tys : List (ClassId × FieldType)} {w0 : va_W} {Qc : (Nat → Prop) → Array Value → State → Outcome → State → Prop} {XC : (Nat → Prop) → String → State → State → Prop} {mc ms : Nat} {cc : ByteArray} {maxL : Nat} {ret : Option FieldType} (av : List Value) (hy : plainName y.cls = true) (hw : wy = Cond.code y cc maxL ret :: wy') (hz : (lg_sl av).length ≤ maxL)
    (body : ∀ (p : Program) (en : Env) (s : State) (m : MethodId) (below : List Frame) (meth : Method) (c : Code) (A : Nat → Prop) (ls : Array Slot), (∀ x ∈ c.exceptionTable.toList, False) → p.tables.exec = Jvm.exec → c.code = cc → meth.sig.returnType = ret → meth.locks = false → c.maxLocals = maxL → (∀ w ∈ wy, w.before av.toArray s = true) → s.vm.findClass y.cls = some m.cls → (∀ q, s.heap.size ≤ q → A q) → va_S A s.heap s.heap [] → va_P D vwD w0 s.heap → va_K D vwD tys s → va_D A w0 → xg ad A s s.heap → lv_has ls maxL (lv_args 0 av) →
      W p l en rm s m av.toArray below meth c s.heap [] 0 0 (vx_MQ below (Qc A) (XC A) av.toArray s mc ms A) (F0 m 0 ls [])) : ∀ sz : Nat, vx_Met l y wy rm (va_Pc av (pr D ad tys w0 sz)) (Qc (va_A w0 sz)) (XC (va_A w0 sz)) mc ms (va_A w0 sz) := by
  intro sz
  refine vx_ofW (cc := cc) (maxL := maxL) (ret := ret) hy hw ?_
  intro p en s m args below meth c s₁ B hml hex hv
  obtain ⟨rfl, hsz, hP, hK, hD0, hX⟩ := hv
  subst hsz
  have hl := lv_entry av (n := maxL) hz
  rw [lg_entry_eq]
  exact body p en s m below meth c (va_A w0 s.heap.size) _ hex B.exec B.bytes B.returns B.notSynchronized hml (atoms_spec (ws := wy) B.pre) (findClass_of_methodNamed B.named) (fun q h => Or.inr h) va_S.rf hP hK hD0.self hX hl
section RQ
variable {p : Program} {l : Launch} {e : Env} {R : Room} {s : State} {m : MethodId} {args : Array Value} {below : List Frame} {meth : Method} {c : Code} {H : Heap} {locs : List Loc} {cells slots : Nat} {Q : State → Prop}
variable {cc : ByteArray} {pc : Nat} {ls : Array Slot} {rest st0 : List Value} {D : va_G} {ad : Nat → Nat} {A : Nat → Prop} {tys : List (ClassId × FieldType)} {ws w0 w1 : va_W}
/-- the number on top by another name -/
theorem q_top {x : Int32} (y : Int32) (h : x = y) (k : W p l e R s m args below meth c H locs cells slots Q (F0 m pc ls (.int y :: rest))) : W p l e R s m args below meth c H locs cells slots Q (F0 m pc ls (.int x :: rest)) := by rw [h]; exact k
theorem q_topl {x : Int64} (y : Int64) (h : x = y) (k : W p l e R s m args below meth c H locs cells slots Q (F0 m pc ls (.long y :: rest))) : W p l e R s m args below meth c H locs cells slots Q (F0 m pc ls (.long x :: rest)) := by rw [h]; exact k
theorem q_iald (hx : p.tables.exec = Jvm.exec) (hb : c.code = cc) (hK : va_K D vwD tys s) (hP : va_P D vwD ws H) (q0 t0 : Nat) {a : Nat} {cA : ClassId} {n : Nat} {f : Nat → Int32} (ha : ws[q0]? = some (a, .inl (cA, n, .inl f))) (ht : tys[t0]? = some (cA, .int)) (k : Nat) (hk : k < n) (hn : n ≤ 4000) {i : Int32} (hi : i = nI k) (hdg : decode cc pc = .ok (.iaload, 1))
    (kk : W p l e R s m args below meth c H locs cells slots Q (F0 m (pc + 1) ls (.int (f k) :: rest))) : W p l e R s m args below meth c H locs cells slots Q (F0 m pc ls (.int i :: .ref a :: rest)) := by
  subst hi
  have hcl : (nI k).toNatClampNeg = k := nI_clamp (by omega)
  refine va_iald hx hb hK hP q0 t0 ha ht (vp_in_nI hk (by omega)) hdg ?_
  rw [hcl]
  exact kk
theorem q_iast (hx : p.tables.exec = Jvm.exec) (hb : c.code = cc) (hK : va_K D vwD tys s) (hP : va_P D vwD ws H) (hD : va_D A ws) (hS : va_S A s.heap H locs) (q0 t0 : Nat) {a : Nat} {cA : ClassId} {n : Nat} {f : Nat → Int32} (ha : ws[q0]? = some (a, .inl (cA, n, .inl f))) (ht : tys[t0]? = some (cA, .int)) (k : Nat) (hk : k < n) (hn : n ≤ 4000) {i x : Int32} (hi : i = nI k) (hdg : decode cc pc = .ok (.iastore, 1))
    (kk : ∀ (H1 : Heap) (locs1 : List Loc), va_P D vwD (ws.set q0 (a, .inl (cA, n, .inl (upd f k x)))) H1 → va_D A (ws.set q0 (a, .inl (cA, n, .inl (upd f k x)))) → va_S A s.heap H1 locs1 → W p l e R s m args below meth c H1 locs1 cells slots Q (F0 m (pc + 1) ls rest)) : W p l e R s m args below meth c H locs cells slots Q (F0 m pc ls (.int x :: .int i :: .ref a :: rest)) := by
  subst hi
  have hcl : (nI k).toNatClampNeg = k := nI_clamp (by omega)
  refine va_iast hx hb hK hP hD hS q0 t0 ha ht (vp_in_nI hk (by omega)) hdg (fun H1 locs1 p1 d1 s1 => ?_)
  rw [hcl] at p1 d1
  exact kk H1 locs1 p1 d1 s1
variable {y : MethodName} {wy Ts : List Cond} {rm : Room} {r : Int32} {mc ms nL maxL index n k k0 mc0 ms0 : Nat} {own C : String} {bytes : ByteArray} {ret : Option FieldType} {b ci N : Nat} {As : List Value} {T : u_T} {fs : List Value} {free : Addr → Prop} {Qc : Array Value → State → Outcome → State → Prop} {XC : String → State → State → Prop}
/-- a call on an object that answers an int -/
theorem r_i (hM : uI l y wy rm D ad tys (.ref b :: As) ws w1 r mc ms) (S : CallFix p m c cc nL s args Ts own) (cw : CallW R s args own C index y bytes maxL ret wy rm mc ms n) (hP : va_P D vwD ws H) (hK : va_K D vwD tys s) (hD : va_D A ws) (hS : va_S A s.heap H locs) (hA : ∀ q, s.heap.size ≤ q → A q) (hX : xg ad A s s.heap)
    (q0 : Nat) (he : ws[q0]? = some (b, .inr (ci, fs))) (hc : vwD[ci]? = some (C, T, N)) (hn : As.length = n) (hz : ls.size = nL) (hst : st0 = As.reverse ++ .ref b :: rest) (hw : (rest.map fun v => v.category).sum ≤ 8) (hdg : decode cc pc = .ok (.invokevirtual index, 3)) (hf : cells + mc ≤ R.cells ∧ slots + ms ≤ R.slots)
    (kk : ∀ (H1 : Heap) (locs1 : List Loc), va_P D vwD w1 H1 → va_D A w1 → va_S A s.heap H1 locs1 → W p l e R s m args below meth c H1 locs1 (cells + mc) (slots + ms) Q (F0 m (pc + 3) ls (.int r :: rest))) : W p l e R s m args below meth c H locs cells slots Q (F0 m pc ls st0) := by
  have hF := pr_fr hD hS hA
  refine va_calli (va_runV (g := F0 m pc ls st0) (As := As) (rest := rest) S (hM H.size) cw ⟨pr_blind, va_recv hK hP hc he, fun U hU hW => ⟨rfl, pr_at hP hK hD hS hA hX U hU hW⟩⟩ rfl hn hz hst (lv_room (m := m) (pc := pc) (ls := ls) (rest := st0) hw) hdg hf) hS (fun q _ h => hF q h) hF (fun r' u t H1 locs1 ht hvm hp hB hz1 hk1 hS1 => ?_)
  subst hp
  obtain ⟨p1, k1, d1⟩ := hB
  rw [ht] at p1
  exact kk H1 locs1 p1 (d1.weaken (fun _ q _ h => hF q.1 h)) hS1
/-- a call on an object that answers nothing -/
theorem r_v (hM : uV l y wy rm D ad tys (.ref b :: As) ws w1 mc ms) (S : CallFix p m c cc nL s args Ts own) (cw : CallW R s args own C index y bytes maxL ret wy rm mc ms n) (hP : va_P D vwD ws H) (hK : va_K D vwD tys s) (hD : va_D A ws) (hS : va_S A s.heap H locs) (hA : ∀ q, s.heap.size ≤ q → A q) (hX : xg ad A s s.heap)
    (q0 : Nat) (he : ws[q0]? = some (b, .inr (ci, fs))) (hc : vwD[ci]? = some (C, T, N)) (hn : As.length = n) (hz : ls.size = nL) (hst : st0 = As.reverse ++ .ref b :: rest) (hw : (rest.map fun v => v.category).sum ≤ 8) (hdg : decode cc pc = .ok (.invokevirtual index, 3)) (hf : cells + mc ≤ R.cells ∧ slots + ms ≤ R.slots)
    (kk : ∀ (H1 : Heap) (locs1 : List Loc), va_P D vwD w1 H1 → va_D A w1 → va_S A s.heap H1 locs1 → W p l e R s m args below meth c H1 locs1 (cells + mc) (slots + ms) Q (F0 m (pc + 3) ls rest)) : W p l e R s m args below meth c H locs cells slots Q (F0 m pc ls st0) := by
  have hF := pr_fr hD hS hA
  refine va_callv (va_runV (g := F0 m pc ls st0) (As := As) (rest := rest) S (hM H.size) cw ⟨pr_blind, va_recv hK hP hc he, fun U hU hW => ⟨rfl, pr_at hP hK hD hS hA hX U hU hW⟩⟩ rfl hn hz hst (lv_room (m := m) (pc := pc) (ls := ls) (rest := st0) hw) hdg hf) hS (fun q _ h => hF q h) hF (fun u t H1 locs1 ht hvm hp hB hz1 hk1 hS1 => ?_)
  obtain ⟨p1, k1, d1⟩ := hB
  rw [ht] at p1
  exact kk H1 locs1 p1 (d1.weaken (fun _ q _ h => hF q.1 h)) hS1
/-- a static call that answers an int -/
theorem r_si (hM : uI l y wy rm D ad tys As ws w1 r mc ms) (S : CallFix p m c cc nL s args Ts own) (cw : CallB R s args own index y bytes maxL ret wy rm mc ms n ∧ (Cond.static y).before args s = true) (hP : va_P D vwD ws H) (hK : va_K D vwD tys s) (hD : va_D A ws) (hS : va_S A s.heap H locs) (hA : ∀ q, s.heap.size ≤ q → A q) (hX : xg ad A s s.heap)
    (hn : As.length = n) (hz : ls.size = nL) (hst : st0 = As.reverse ++ rest) (hw : (rest.map fun v => v.category).sum ≤ 8) (hdg : decode cc pc = .ok (.invokestatic index, 3)) (hf : cells + mc ≤ R.cells ∧ slots + ms ≤ R.slots)
    (kk : ∀ (H1 : Heap) (locs1 : List Loc), va_P D vwD w1 H1 → va_D A w1 → va_S A s.heap H1 locs1 → W p l e R s m args below meth c H1 locs1 (cells + mc) (slots + ms) Q (F0 m (pc + 3) ls (.int r :: rest))) : W p l e R s m args below meth c H locs cells slots Q (F0 m pc ls st0) := by
  have hF := pr_fr hD hS hA
  refine va_calli (va_runS (g := F0 m pc ls st0) (As := As) (rest := rest) S (hM H.size) cw ⟨pr_blind, fun U hU hW => ⟨rfl, pr_at hP hK hD hS hA hX U hU hW⟩⟩ rfl hn hz hst (lv_room (m := m) (pc := pc) (ls := ls) (rest := st0) hw) hdg hf) hS (fun q _ h => hF q h) hF (fun r' u t H1 locs1 ht hvm hp hB hz1 hk1 hS1 => ?_)
  subst hp
  obtain ⟨p1, k1, d1⟩ := hB
  rw [ht] at p1
  exact kk H1 locs1 p1 (d1.weaken (fun _ q _ h => hF q.1 h)) hS1
theorem r_sv (hM : uV l y wy rm D ad tys As ws w1 mc ms) (S : CallFix p m c cc nL s args Ts own) (cw : CallB R s args own index y bytes maxL ret wy rm mc ms n ∧ (Cond.static y).before args s = true) (hP : va_P D vwD ws H) (hK : va_K D vwD tys s) (hD : va_D A ws) (hS : va_S A s.heap H locs) (hA : ∀ q, s.heap.size ≤ q → A q) (hX : xg ad A s s.heap)
    (hn : As.length = n) (hz : ls.size = nL) (hst : st0 = As.reverse ++ rest) (hw : (rest.map fun v => v.category).sum ≤ 8) (hdg : decode cc pc = .ok (.invokestatic index, 3)) (hf : cells + mc ≤ R.cells ∧ slots + ms ≤ R.slots)
    (kk : ∀ (H1 : Heap) (locs1 : List Loc), va_P D vwD w1 H1 → va_D A w1 → va_S A s.heap H1 locs1 → W p l e R s m args below meth c H1 locs1 (cells + mc) (slots + ms) Q (F0 m (pc + 3) ls rest)) : W p l e R s m args below meth c H locs cells slots Q (F0 m pc ls st0) := by
  have hF := pr_fr hD hS hA
  refine va_callv (va_runS (g := F0 m pc ls st0) (As := As) (rest := rest) S (hM H.size) cw ⟨pr_blind, fun U hU hW => ⟨rfl, pr_at hP hK hD hS hA hX U hU hW⟩⟩ rfl hn hz hst (lv_room (m := m) (pc := pc) (ls := ls) (rest := st0) hw) hdg hf) hS (fun q _ h => hF q h) hF (fun u t H1 locs1 ht hvm hp hB hz1 hk1 hS1 => ?_)
  obtain ⟨p1, k1, d1⟩ := hB
  rw [ht] at p1
  exact kk H1 locs1 p1 (d1.weaken (fun _ q _ h => hF q.1 h)) hS1
/-- the callee throws, nothing here takes it: on an object -/
theorem r_x (hM : uX l y wy rm D ad tys (.ref b :: As) ws k) (S : CallFix p m c cc nL s args Ts own) (cw : CallW R s args own C index y bytes maxL ret wy rm 1 6 n) (hP : va_P D vwD ws H) (hK : va_K D vwD tys s) (hD : va_D A ws) (hS : va_S A s.heap H locs) (hA : ∀ q, s.heap.size ≤ q → A q) (hX : xg ad A s s.heap)
    (q0 : Nat) (he : ws[q0]? = some (b, .inr (ci, fs))) (hc : vwD[ci]? = some (C, T, N)) (hn : As.length = n) (hz : ls.size = nL) (hst : st0 = As.reverse ++ .ref b :: rest) (hw : (rest.map fun v => v.category).sum ≤ 8) (hdg : decode cc pc = .ok (.invokevirtual index, 3)) (hf : cells + 1 ≤ R.cells ∧ slots + 6 ≤ R.slots)
    (hex : ∀ x ∈ c.exceptionTable.toList, False) (hlocks : meth.locks = false) (hk : k = k0) (hmc : cells + 1 ≤ mc0) (hms : slots + 6 ≤ ms0) : W p l e R s m args below meth c H locs cells slots (vx_MQ below Qc (xT D tys ws k0 A) args s mc0 ms0 A) (F0 m pc ls st0) := by
  have hF := pr_fr hD hS hA
  subst hk
  refine vx_callv (vx_runV (g := F0 m pc ls st0) (As := As) (rest := rest) S (hM H.size) cw ⟨pr_blind, va_recv hK hP hc he, fun U hU hW => ⟨rfl, pr_at hP hK hD hS hA hX U hU hW⟩⟩ rfl hn hz hst (lv_room (m := m) (pc := pc) (ls := ls) (rest := st0) hw) hdg hf) hS (fun q _ h => hF q h) hF (fun q _ h => hF q h) (fun E ce q9 u t H1 locs1 ht hvm hp hB hz1 hk1 hS1 hce hcv hcl => ?_) (fun u t H1 locs1 ht hvm hp hB hz1 hk1 hS1 => hp.elim)
  obtain ⟨hE, p1, k1, d1⟩ := hB
  rw [ht] at p1
  exact vx_out (E := E) (fun x h => (hex x h).elim) hlocks hce hcv hcl (fun t' ht' ha => ⟨(), trivial, ⟨hE, by rw [ht']; exact p1, va_K.moved ha hK, d1.weaken (fun _ q _ h => hF q.1 h)⟩, hS1.F ht'⟩) hS1.2.2 hmc hms
/-- the same, a static call -/
theorem r_sx (hM : uX l y wy rm D ad tys As ws k) (S : CallFix p m c cc nL s args Ts own) (cw : CallB R s args own index y bytes maxL ret wy rm 1 6 n ∧ (Cond.static y).before args s = true) (hP : va_P D vwD ws H) (hK : va_K D vwD tys s) (hD : va_D A ws) (hS : va_S A s.heap H locs) (hA : ∀ q, s.heap.size ≤ q → A q) (hX : xg ad A s s.heap)
    (hn : As.length = n) (hz : ls.size = nL) (hst : st0 = As.reverse ++ rest) (hw : (rest.map fun v => v.category).sum ≤ 8) (hdg : decode cc pc = .ok (.invokestatic index, 3)) (hf : cells + 1 ≤ R.cells ∧ slots + 6 ≤ R.slots)
    (hex : ∀ x ∈ c.exceptionTable.toList, False) (hlocks : meth.locks = false) (hk : k = k0) (hmc : cells + 1 ≤ mc0) (hms : slots + 6 ≤ ms0) : W p l e R s m args below meth c H locs cells slots (vx_MQ below Qc (xT D tys ws k0 A) args s mc0 ms0 A) (F0 m pc ls st0) := by
  have hF := pr_fr hD hS hA
  subst hk
  refine vx_callv (vx_runS (g := F0 m pc ls st0) (As := As) (rest := rest) S (hM H.size) cw ⟨pr_blind, fun U hU hW => ⟨rfl, pr_at hP hK hD hS hA hX U hU hW⟩⟩ rfl hn hz hst (lv_room (m := m) (pc := pc) (ls := ls) (rest := st0) hw) hdg hf) hS (fun q _ h => hF q h) hF (fun q _ h => hF q h) (fun E ce q9 u t H1 locs1 ht hvm hp hB hz1 hk1 hS1 hce hcv hcl => ?_) (fun u t H1 locs1 ht hvm hp hB hz1 hk1 hS1 => hp.elim)
  obtain ⟨hE, p1, k1, d1⟩ := hB
  rw [ht] at p1
  exact vx_out (E := E) (fun x h => (hex x h).elim) hlocks hce hcv hcl (fun t' ht' ha => ⟨(), trivial, ⟨hE, by rw [ht']; exact p1, va_K.moved ha hK, d1.weaken (fun _ q _ h => hF q.1 h)⟩, hS1.F ht'⟩) hS1.2.2 hmc hms
/-- a call on an object that answers, or throws -/
theorem r_c (hM : uT l y wy rm D ad tys (.ref b :: As) ws w1 k r) (S : CallFix p m c cc nL s args Ts own) (cw : CallW R s args own C index y bytes maxL ret wy rm 1 6 n) (hP : va_P D vwD ws H) (hK : va_K D vwD tys s) (hD : va_D A ws) (hS : va_S A s.heap H locs) (hA : ∀ q, s.heap.size ≤ q → A q) (hX : xg ad A s s.heap)
    (q0 : Nat) (he : ws[q0]? = some (b, .inr (ci, fs))) (hc : vwD[ci]? = some (C, T, N)) (hn : As.length = n) (hz : ls.size = nL) (hst : st0 = As.reverse ++ .ref b :: rest) (hw : (rest.map fun v => v.category).sum ≤ 8) (hdg : decode cc pc = .ok (.invokevirtual index, 3)) (hf : cells + 1 ≤ R.cells ∧ slots + 6 ≤ R.slots)
    (kx : ∀ (E : String) (ce : Cell) (q9 : Addr) (H1 : Heap) (locs1 : List Loc), k ≠ 0 → E = xn k → va_P D vwD ws H1 → va_D A ws → va_S A s.heap H1 locs1 → H1[q9]? = some ce → ce.vm = .none → s.vm.findClass E = some ce.cls → vx_W p l e R s m args below meth c H1 locs1 (cells + 1) (slots + 6) Q (F0 m pc ls rest) q9)
    (kk : ∀ (H1 : Heap) (locs1 : List Loc), k = 0 → va_P D vwD w1 H1 → va_D A w1 → va_S A s.heap H1 locs1 → W p l e R s m args below meth c H1 locs1 (cells + 1) (slots + 6) Q (F0 m (pc + 3) ls (.int r :: rest))) : W p l e R s m args below meth c H locs cells slots Q (F0 m pc ls st0) := by
  have hF := pr_fr hD hS hA
  refine vx_calli (vx_runV (g := F0 m pc ls st0) (As := As) (rest := rest) S (hM H.size) cw ⟨pr_blind, va_recv hK hP hc he, fun U hU hW => ⟨rfl, pr_at hP hK hD hS hA hX U hU hW⟩⟩ rfl hn hz hst (lv_room (m := m) (pc := pc) (ls := ls) (rest := st0) hw) hdg hf) hS (fun q _ h => hF q h) hF (fun q _ h => hF q h) (fun E ce q9 u t H1 locs1 ht hvm hp hB hz1 hk1 hS1 hce hcv hcl => ?_) (fun r' u t H1 locs1 ht hvm hp hB hz1 hk1 hS1 => ?_)
  · obtain ⟨hE, p1, k1, d1⟩ := hB
    rw [ht] at p1
    exact kx E ce q9 H1 locs1 hE.1 hE.2 p1 (d1.weaken (fun _ q _ h => hF q.1 h)) hS1 hce hcv hcl
  · obtain ⟨hk0, rfl⟩ := hp
    obtain ⟨p1, k1, d1⟩ := hB
    rw [ht] at p1
    exact kk H1 locs1 hk0 p1 (d1.weaken (fun _ q _ h => hF q.1 h)) hS1
/-- a static call of a method with a table of its own, that answers an int -/
theorem r_swi {hh : List (Nat × Nat × Nat × Nat)} (hM : uI l y wy rm D ad tys As ws w1 r mc ms) (S : CallFix p m c cc nL s args Ts own) (cw : vx_CSW R s args own index y bytes maxL ret hh wy rm mc ms n) (hP : va_P D vwD ws H) (hK : va_K D vwD tys s) (hD : va_D A ws) (hS : va_S A s.heap H locs) (hA : ∀ q, s.heap.size ≤ q → A q) (hX : xg ad A s s.heap)
    (hn : As.length = n) (hz : ls.size = nL) (hst : st0 = As.reverse ++ rest) (hw : (rest.map fun v => v.category).sum ≤ 8) (hdg : decode cc pc = .ok (.invokestatic index, 3)) (hf : cells + mc ≤ R.cells ∧ slots + ms ≤ R.slots)
    (kk : ∀ (H1 : Heap) (locs1 : List Loc), va_P D vwD w1 H1 → va_D A w1 → va_S A s.heap H1 locs1 → W p l e R s m args below meth c H1 locs1 (cells + mc) (slots + ms) Q (F0 m (pc + 3) ls (.int r :: rest))) : W p l e R s m args below meth c H locs cells slots Q (F0 m pc ls st0) := by
  have hF := pr_fr hD hS hA
  refine va_calli (vx_runSW (g := F0 m pc ls st0) (As := As) (rest := rest) S (hM H.size) cw ⟨pr_blind, fun U hU hW => ⟨rfl, pr_at hP hK hD hS hA hX U hU hW⟩⟩ rfl hn hz hst (lv_room (m := m) (pc := pc) (ls := ls) (rest := st0) hw) hdg hf) hS (fun q _ h => hF q h) hF (fun r' u t H1 locs1 ht hvm hp hB hz1 hk1 hS1 => ?_)
  subst hp
  obtain ⟨p1, k1, d1⟩ := hB
  rw [ht] at p1
  exact kk H1 locs1 p1 (d1.weaken (fun _ q _ h => hF q.1 h)) hS1
/-- the same on an object -/
theorem r_vwi {hh : List (Nat × Nat × Nat × Nat)} (hM : uI l y wy rm D ad tys (.ref b :: As) ws w1 r mc ms) (S : CallFix p m c cc nL s args Ts own) (cw : vx_CVW R s args own C index y bytes maxL ret hh wy rm mc ms n) (hP : va_P D vwD ws H) (hK : va_K D vwD tys s) (hD : va_D A ws) (hS : va_S A s.heap H locs) (hA : ∀ q, s.heap.size ≤ q → A q) (hX : xg ad A s s.heap)
    (q0 : Nat) (he : ws[q0]? = some (b, .inr (ci, fs))) (hc : vwD[ci]? = some (C, T, N)) (hn : As.length = n) (hz : ls.size = nL) (hst : st0 = As.reverse ++ .ref b :: rest) (hw : (rest.map fun v => v.category).sum ≤ 8) (hdg : decode cc pc = .ok (.invokevirtual index, 3)) (hf : cells + mc ≤ R.cells ∧ slots + ms ≤ R.slots)
    (kk : ∀ (H1 : Heap) (locs1 : List Loc), va_P D vwD w1 H1 → va_D A w1 → va_S A s.heap H1 locs1 → W p l e R s m args below meth c H1 locs1 (cells + mc) (slots + ms) Q (F0 m (pc + 3) ls (.int r :: rest))) : W p l e R s m args below meth c H locs cells slots Q (F0 m pc ls st0) := by
  have hF := pr_fr hD hS hA
  refine va_calli (vx_runVW (g := F0 m pc ls st0) (As := As) (rest := rest) S (hM H.size) cw ⟨pr_blind, va_recv hK hP hc he, fun U hU hW => ⟨rfl, pr_at hP hK hD hS hA hX U hU hW⟩⟩ rfl hn hz hst (lv_room (m := m) (pc := pc) (ls := ls) (rest := st0) hw) hdg hf) hS (fun q _ h => hF q h) hF (fun r' u t H1 locs1 ht hvm hp hB hz1 hk1 hS1 => ?_)
  subst hp
  obtain ⟨p1, k1, d1⟩ := hB
  rw [ht] at p1
  exact kk H1 locs1 p1 (d1.weaken (fun _ q _ h => hF q.1 h)) hS1
/-- a constructor: its new cells are named by what it leaves -/
theorem r_n {N3 : Type} {wf : N3 → va_W} (hM : ∀ sz : Nat, Met l y wy rm (va_Pc (.ref b :: As) (pr D ad tys ws sz)) (qN D tys wf (va_A ws sz)) mc ms (va_A ws sz)) (S : CallFix p m c cc nL s args Ts own) (cw : CallB R s args own index y bytes maxL none wy rm mc ms n ∧ y.name = "<init>" ∧ (Cond.instanceMethod y).before args s = true) (hP : va_P D vwD ws H) (hK : va_K D vwD tys s) (hD : va_D A ws) (hS : va_S A s.heap H locs) (hA : ∀ q, s.heap.size ≤ q → A q) (hX : xg ad A s s.heap)
    (hn : As.length = n) (hz : ls.size = nL) (hst : st0 = As.reverse ++ .ref b :: rest) (hw : (rest.map fun v => v.category).sum ≤ 8) (hdg : decode cc pc = .ok (.invokespecial index, 3)) (hf : cells + mc ≤ R.cells ∧ slots + ms ≤ R.slots)
    (kk : ∀ (u : N3) (H1 : Heap) (locs1 : List Loc), va_P D vwD (wf u) H1 → va_D A (wf u) → va_S A s.heap H1 locs1 → W p l e R s m args below meth c H1 locs1 (cells + mc) (slots + ms) Q (F0 m (pc + 3) ls rest)) : W p l e R s m args below meth c H locs cells slots Q (F0 m pc ls st0) := by
  have hF := pr_fr hD hS hA
  refine va_callv (va_runI (g := F0 m pc ls st0) (As := As) (rest := rest) S (hM H.size) cw ⟨pr_blind, fun U hU hW => ⟨rfl, pr_at hP hK hD hS hA hX U hU hW⟩⟩ rfl hn hz hst (lv_room (m := m) (pc := pc) (ls := ls) (rest := st0) hw) hdg hf) hS (fun q _ h => hF q h) hF (fun u t H1 locs1 ht hvm hp hB hz1 hk1 hS1 => ?_)
  obtain ⟨p1, k1, d1⟩ := hB
  rw [ht] at p1
  exact kk u H1 locs1 p1 (d1.weaken (fun _ q _ h => hF q.1 h)) hS1
/-- where a method throws by itself -/
theorem r_t {j : Nat} (hkj : k = j) (hj : j ≠ 0) {E : String} (hE : E = xn j) (hP : va_P D vwD ws H) (hK : va_K D vwD tys s) (hD : va_D A ws) (hS : va_S A s.heap H locs) : ∀ t : State, s.vm.Alike t.vm → H.size ≤ t.heap.size → (∀ q : Nat, q < H.size → t.heap[q]? = H[q]?) → xT D tys ws k A E s t :=
  fun t ha hsz hq => ⟨(), trivial, ⟨⟨by rw [hkj]; exact hj, by rw [hkj]; exact hE⟩, hP.kept (fun j q hj => hq q.1 (hP j q hj).lt), va_K.moved ha hK, hD⟩, Nat.le_trans hS.1 hsz, fun q h1 h2 => (hq q (Nat.lt_of_lt_of_le h1 hS.1)).trans (hS.2.1 q h1 h2)⟩
/-- ends -/
theorem e_i (hx : p.tables.exec = Jvm.exec) (hb : c.code = cc) (hr : meth.sig.returnType = some .int) (hlocks : meth.locks = false) (hP : va_P D vwD w1 H) (hK : va_K D vwD tys s) (hD : va_D A w1) (hS : va_S A s.heap H locs) (hdg : decode cc pc = .ok (.ireturn, 1)) (hc : cells ≤ mc) (hs : slots ≤ ms) : W p l e R s m args below meth c H locs cells slots (MQ below (qI D tys w1 r A) args s mc ms A) (F0 m pc ls [.int r]) :=
  W.widen hc hs (W.iret (v := r) hx hb hr (fun t ht hW => ⟨⟨r, (), rfl, rfl, by rw [ht]; exact hP, va_K.moved hW.alike hK, hD⟩, hS.F ht⟩) hS.2.2 hdg hlocks)
theorem e_z (hx : p.tables.exec = Jvm.exec) (hb : c.code = cc) (hr : meth.sig.returnType = some .boolean) (hn : narrow .boolean (.int r) = .int r) (hlocks : meth.locks = false) (hP : va_P D vwD w1 H) (hK : va_K D vwD tys s) (hD : va_D A w1) (hS : va_S A s.heap H locs) (hdg : decode cc pc = .ok (.ireturn, 1)) (hc : cells ≤ mc) (hs : slots ≤ ms) : W p l e R s m args below meth c H locs cells slots (MQ below (qI D tys w1 r A) args s mc ms A) (F0 m pc ls [.int r]) :=
  W.widen hc hs (W.zret (v := r) hx hb hr hn (fun t ht hW => ⟨⟨r, (), rfl, rfl, by rw [ht]; exact hP, va_K.moved hW.alike hK, hD⟩, hS.F ht⟩) hS.2.2 hdg hlocks)
theorem e_v (hx : p.tables.exec = Jvm.exec) (hb : c.code = cc) (hr : meth.sig.returnType = none) (hlocks : meth.locks = false) (hP : va_P D vwD w1 H) (hK : va_K D vwD tys s) (hD : va_D A w1) (hS : va_S A s.heap H locs) (hdg : decode cc pc = .ok (.return_, 1)) (hc : cells ≤ mc) (hs : slots ≤ ms) : W p l e R s m args below meth c H locs cells slots (MQ below (qV D tys w1 A) args s mc ms A) (F0 m pc ls []) :=
  W.widen hc hs (W.vret hx hb hr (fun t ht hW => ⟨⟨(), rfl, trivial, by rw [ht]; exact hP, va_K.moved hW.alike hK, hD⟩, hS.F ht⟩) hS.2.2 hdg hlocks)
theorem e_t (hx : p.tables.exec = Jvm.exec) (hb : c.code = cc) (hr : meth.sig.returnType = some .int) (hlocks : meth.locks = false) (hk : k = 0) (hP : va_P D vwD w1 H) (hK : va_K D vwD tys s) (hD : va_D A w1) (hS : va_S A s.heap H locs) (hdg : decode cc pc = .ok (.ireturn, 1)) (hc : cells ≤ mc) (hs : slots ≤ ms) : W p l e R s m args below meth c H locs cells slots (vx_MQ below (qT D tys w1 k r A) XC args s mc ms A) (F0 m pc ls [.int r]) :=
  vx_ret (W.widen hc hs (W.iret (v := r) hx hb hr (fun t ht hW => ⟨⟨r, (), rfl, ⟨hk, rfl⟩, by rw [ht]; exact hP, va_K.moved hW.alike hK, hD⟩, hS.F ht⟩) hS.2.2 hdg hlocks))
theorem e_n {N3 : Type} {wf : N3 → va_W} (u : N3) (hx : p.tables.exec = Jvm.exec) (hb : c.code = cc) (hr : meth.sig.returnType = none) (hlocks : meth.locks = false) (hP : va_P D vwD (wf u) H) (hK : va_K D vwD tys s) (hD : va_D A (wf u)) (hS : va_S A s.heap H locs) (hdg : decode cc pc = .ok (.return_, 1)) (hc : cells ≤ mc) (hs : slots ≤ ms) : W p l e R s m args below meth c H locs cells slots (MQ below (qN D tys wf A) args s mc ms A) (F0 m pc ls []) :=
  W.widen hc hs (W.vret hx hb hr (fun t ht hW => ⟨⟨u, rfl, trivial, by rw [ht]; exact hP, va_K.moved hW.alike hK, hD⟩, hS.F ht⟩) hS.2.2 hdg hlocks)
/-- an array of 4000 ints, all 0: its class is the one that is known -/
theorem q_newi {cI cJ : ClassId} (hx : p.tables.exec = Jvm.exec) (hb : c.code = cc) (harr : (Cond.arrayClass .int).before args s = true) (hK : va_K D vwD [(cI, .int), (cJ, .long)] s) (hP : va_P D vwD ws H) (hD : va_D A ws) (hS : va_S A s.heap H locs) (hA : ∀ q, s.heap.size ≤ q → A q) (hcells : cells + 1 ≤ R.cells) (hslots : slots + 4000 ≤ R.slots) (hdg : decode cc pc = .ok (.newarray .int, 2))
    (kk : ∀ (q : Nat) (H1 : Heap), va_P D vwD (ws ++ [(q, .inl (cI, 4000, .inl (fun _ => 0)))]) H1 → va_D A (ws ++ [(q, .inl (cI, 4000, .inl (fun _ => 0)))]) → va_S A s.heap H1 locs →
      W p l e R s m args below meth c H1 locs (cells + 1) (slots + 4000) Q (F0 m (pc + 2) ls (.ref q :: rest))) : W p l e R s m args below meth c H locs cells slots Q (F0 m pc ls (.int 4000 :: rest)) := by
  refine va_newa (atype := .int) (ty := .int) (a0 := (4000, .inl (fun _ => 0))) (N' := 4000) hx hb harr rfl hK hP hD hS hA (fun cA => rfl) (by decide) (by decide) (by decide) hcells hslots hdg (fun q cA H1 hK1 hP1 hD1 hS1 => ?_)
  have h1 : s.vm.findClass ("[" ++ FieldType.int.toString) = some cA := (hK1.2 2 _ rfl).2
  have h2 : s.vm.findClass ("[" ++ FieldType.int.toString) = some cI := (hK.2 0 _ rfl).2
  have h3 : cI = cA := Option.some.inj (h2.symm.trans h1)
  subst h3
  exact kk q H1 hP1 hD1 hS1
/-- the array of one long -/
theorem q_newl {cI cJ : ClassId} (hx : p.tables.exec = Jvm.exec) (hb : c.code = cc) (harr : (Cond.arrayClass .long).before args s = true) (hK : va_K D vwD [(cI, .int), (cJ, .long)] s) (hP : va_P D vwD ws H) (hD : va_D A ws) (hS : va_S A s.heap H locs) (hA : ∀ q, s.heap.size ≤ q → A q) (hcells : cells + 1 ≤ R.cells) (hslots : slots + 1 ≤ R.slots) (hdg : decode cc pc = .ok (.newarray .long, 2))
    (kk : ∀ (q : Nat) (H1 : Heap), va_P D vwD (ws ++ [(q, .inl (cJ, 1, .inr (.inl (fun _ => 0))))]) H1 → va_D A (ws ++ [(q, .inl (cJ, 1, .inr (.inl (fun _ => 0))))]) → va_S A s.heap H1 locs →
      W p l e R s m args below meth c H1 locs (cells + 1) (slots + 1) Q (F0 m (pc + 2) ls (.ref q :: rest))) : W p l e R s m args below meth c H locs cells slots Q (F0 m pc ls (.int 1 :: rest)) := by
  refine va_newa (atype := .long) (ty := .long) (a0 := (1, .inr (.inl (fun _ => 0)))) (N' := 1) hx hb harr rfl hK hP hD hS hA (fun cA => rfl) (by decide) (by decide) (by decide) hcells hslots hdg (fun q cA H1 hK1 hP1 hD1 hS1 => ?_)
  have h1 : s.vm.findClass ("[" ++ FieldType.long.toString) = some cA := (hK1.2 2 _ rfl).2
  have h2 : s.vm.findClass ("[" ++ FieldType.long.toString) = some cJ := (hK.2 1 _ rfl).2
  have h3 : cJ = cA := Option.some.inj (h2.symm.trans h1)
  subst h3
  exact kk q H1 hP1 hD1 hS1
/-- the tables know the two array classes -/
theorem q_arr {t : FieldType} (h : (Cond.arrayClass t).before args s = true) : ∃ cA : ClassId, ArrOfT s cA t ∧ s.vm.findClass ("[" ++ t.toString) = some cA := by
  obtain ⟨cA, kA, comp, h1, h2, h3⟩ := Cond.arrayClass_spec h
  exact ⟨cA, fun n z => ⟨fun k h => (by cases h), kA, h2, comp, h3⟩, h1⟩
end RQ
end
section
/-! The class: its private helpers, and entries -/
set_option maxHeartbeats 4000000 in
set_option maxRecDepth 100000 in
theorem k_cw_ok (l : Launch) (D : va_G) (ad : Nat → Nat) (cI cJ : ClassId) (w0 : va_W) (a b : Int32) (ha : rk_W a) (hb0 : rk_W b) : uV l yX0_checkWeights wsX0_checkWeights ({ frames := 0, cells := 0, slots := 0, locals := 0 } : Room) D ad [(cI, .int), (cJ, .long)] [.int a, .int b] (w0) (w0) 0 0 := by
  unfold uV
  refine st_M (Qc := qV D [(cI, .int), (cJ, .long)] w0) (mc := 0) (ms := 0) (cc := cX0_checkWeights) (maxL := 2) (ret := none) [.int a, .int b] (by decide) rfl (Nat.le_of_ble_eq_true rfl) (fun p en s m below meth c A ls hx hb hr hlocks hml hts hown hA hS hP hK hD hX hl => ?_)
  have hown : s.vm.findClass RX0 = some m.cls := hown
  have hl : lv_has ls 2 [(0, .int a), (1, .int b)] := hl
  have SC : CallFix p m c cX0_checkWeights 2 s ([.int a, .int b] : List Value).toArray wsX0_checkWeights RX0 := ⟨hx, hb, hml, hown, hts⟩
  refine lv_iload_n hx hb dX0_checkWeights_0 rfl (lv_at hl 0 rfl) ?_
  refine lv_if_lt (tgt := 22) hx hb dX0_checkWeights_1 (by decide) (fun h9 => absurd h9 (ha.1)) (fun _ => ?_)
  refine lv_iload_n hx hb dX0_checkWeights_4 rfl (lv_at hl 0 rfl) ?_
  refine lv_sipush (v := 1000) hx hb dX0_checkWeights_5 (by decide) ?_
  refine lv_icmp_gt (tgt := 22) hx hb dX0_checkWeights_8 (by decide) (fun h9 => absurd h9 (ha.2)) (fun _ => ?_)
  refine lv_iload_n hx hb dX0_checkWeights_11 rfl (lv_at hl 1 rfl) ?_
  refine lv_if_lt (tgt := 22) hx hb dX0_checkWeights_12 (by decide) (fun h9 => absurd h9 (hb0.1)) (fun _ => ?_)
  refine lv_iload_n hx hb dX0_checkWeights_15 rfl (lv_at hl 1 rfl) ?_
  refine lv_sipush (v := 1000) hx hb dX0_checkWeights_16 (by decide) ?_
  refine lv_icmp_le (tgt := 32) hx hb dX0_checkWeights_19 (by decide) (fun _ => ?_) (fun h9 => absurd (Int32.not_lt.mp hb0.2) h9)
  exact e_v hx hb hr hlocks hP hK hD hS dX0_checkWeights_32 (Nat.le_of_ble_eq_true rfl) (Nat.le_of_ble_eq_true rfl)
set_option maxHeartbeats 4000000 in
set_option maxRecDepth 100000 in
theorem k_cw_bad (l : Launch) (D : va_G) (ad : Nat → Nat) (cI cJ : ClassId) (w0 : va_W) (a b : Int32) (hl9 : l.stackTraces = false) (hno : ¬ (rk_W a ∧ rk_W b)) : uX l yX0_checkWeights wsX0_checkWeights ({ frames := 6, cells := 1, slots := 6, locals := 100 } : Room) D ad [(cI, .int), (cJ, .long)] [.int a, .int b] (w0) 1 := by
  unfold uX
  refine st_T (Qc := qX D [(cI, .int), (cJ, .long)] w0) (XC := xT D [(cI, .int), (cJ, .long)] w0 1) (mc := 1) (ms := 6) (cc := cX0_checkWeights) (maxL := 2) (ret := none) [.int a, .int b] (by decide) rfl (Nat.le_of_ble_eq_true rfl) (fun p en s m below meth c A ls hex hx hb hr hlocks hml hts hown hA hS hP hK hD hX hl => ?_)
  have hown : s.vm.findClass RX0 = some m.cls := hown
  have hl : lv_has ls 2 [(0, .int a), (1, .int b)] := hl
  have SC : CallFix p m c cX0_checkWeights 2 s ([.int a, .int b] : List Value).toArray wsX0_checkWeights RX0 := ⟨hx, hb, hml, hown, hts⟩
  have hthrow : ∀ ls : Array Slot, lv_has ls 2 [(0, .int a), (1, .int b)] → W p l en ({ frames := 6, cells := 1, slots := 6, locals := 100 } : Room) s m ([.int a, .int b] : List Value).toArray below meth c s.heap [] 0 0 (vx_MQ below (qX D [(cI, .int), (cJ, .long)] w0 A) (xT D [(cI, .int), (cJ, .long)] w0 1 A) ([.int a, .int b] : List Value).toArray s 1 6 A) (F0 m 22 ls []) := by
    intro ls hl
    exact vx_throwS (own := RX0) (cls := "java/lang/IllegalArgumentException") (names := ["java/lang/RuntimeException", "java/lang/Exception"]) hx hb hl9 hown (by decide +kernel) (by decide +kernel) (hts (.classLink RX0 23 "java/lang/IllegalArgumentException") (by decide +kernel)) (hts (.initialized "java/lang/IllegalArgumentException") (by decide +kernel)) (hX.2.2.2.2 _ (List.mem_of_getElem? (i := 5) rfl)) (vx_hat (L := vx_atS RX0 27 "java/lang/IllegalArgumentException" ["java/lang/RuntimeException", "java/lang/Exception"]) (B := [.castable "java/lang/IllegalArgumentException" "java/lang/IllegalArgumentException", .declares ⟨"java/lang/RuntimeException", "<init>", "(Ljava/lang/String;)V"⟩, .declares ⟨"java/lang/Exception", "<init>", "(Ljava/lang/String;)V"⟩, .declares ⟨"java/lang/Throwable", "<init>", "(Ljava/lang/String;)V"⟩]) (fun w hw => hts w ((by decide +kernel : ∀ w ∈ (vx_atS RX0 27 "java/lang/IllegalArgumentException" ["java/lang/RuntimeException", "java/lang/Exception"]).filter goodWord, w ∈ wsX0_checkWeights) w hw)) (by decide +kernel) (vx_c (va_Nw.use rfl (hX.2.1 _ (List.mem_of_getElem? (i := 0) rfl))) (vx_c (va_Nw.use rfl (hX.2.2.1 _ (List.mem_of_getElem? (i := 0) rfl))) (vx_c (va_Nw.use rfl (hX.2.2.1 _ (List.mem_of_getElem? (i := 1) rfl))) (vx_c (va_Nw.use rfl (hX.2.2.1 _ (List.mem_of_getElem? (i := 2) rfl))) (vx_n)))))) (by decide +kernel) hX.1.1 hX.1.2 hS (hl.1.trans hml.symm) dX0_checkWeights_22 dX0_checkWeights_25 dX0_checkWeights_26 dX0_checkWeights_28 dX0_checkWeights_31 (fun x h => (hex x h).elim) (Nat.le_of_ble_eq_true rfl) (Nat.le_of_ble_eq_true rfl) (Nat.le_of_ble_eq_true rfl) (Nat.le_of_ble_eq_true rfl) hlocks (r_t (rfl) (by decide) (by decide +kernel) hP hK hD hS) hS.2.2 (Nat.le_of_ble_eq_true rfl) (Nat.le_of_ble_eq_true rfl)
  refine lv_iload_n hx hb dX0_checkWeights_0 rfl (lv_at hl 0 rfl) ?_
  refine lv_if_lt (tgt := 22) hx hb dX0_checkWeights_1 (by decide) (fun h1 => ?_) (fun h1 => ?_)
  · exact hthrow ls hl
  · refine lv_iload_n hx hb dX0_checkWeights_4 rfl (lv_at hl 0 rfl) ?_
    refine lv_sipush (v := 1000) hx hb dX0_checkWeights_5 (by decide) ?_
    refine lv_icmp_gt (tgt := 22) hx hb dX0_checkWeights_8 (by decide) (fun h2 => ?_) (fun h2 => ?_)
    · exact hthrow ls hl
    · refine lv_iload_n hx hb dX0_checkWeights_11 rfl (lv_at hl 1 rfl) ?_
      refine lv_if_lt (tgt := 22) hx hb dX0_checkWeights_12 (by decide) (fun h3 => ?_) (fun h3 => ?_)
      · exact hthrow ls hl
      · refine lv_iload_n hx hb dX0_checkWeights_15 rfl (lv_at hl 1 rfl) ?_
        refine lv_sipush (v := 1000) hx hb dX0_checkWeights_16 (by decide) ?_
        refine lv_icmp_le (tgt := 32) hx hb dX0_checkWeights_19 (by decide) (fun h9 => absurd ⟨⟨h1, h2⟩, h3, Int32.not_lt.mpr h9⟩ hno) (fun h4 => ?_)
        exact hthrow ls hl
set_option maxHeartbeats 4000000 in
set_option maxRecDepth 100000 in
theorem k_ce_ok (l : Launch) (D : va_G) (ad : Nat → Nat) (cI cJ : ClassId) (tl : va_W) (h r1 f1 s1 : Nat) (R F S : Nat → Int32) (cn : Nat) (ee : Int32) (he : rk_E ee cn) : uV l yX0_checkEntry wsX0_checkEntry ({ frames := 0, cells := 0, slots := 0, locals := 0 } : Room) D ad [(cI, .int), (cJ, .long)] [.ref h, .int ee] (wX h r1 f1 s1 cI R F S cn tl) (wX h r1 f1 s1 cI R F S cn tl) 0 0 := by
  unfold uV
  refine st_M (Qc := qV D [(cI, .int), (cJ, .long)] (wX h r1 f1 s1 cI R F S cn tl)) (mc := 0) (ms := 0) (cc := cX0_checkEntry) (maxL := 2) (ret := none) [.ref h, .int ee] (by decide) rfl (Nat.le_of_ble_eq_true rfl) (fun p en s m below meth c A ls hx hb hr hlocks hml hts hown hA hS hP hK hD hX hl => ?_)
  have hown : s.vm.findClass RX0 = some m.cls := hown
  have hl : lv_has ls 2 [(0, .ref h), (1, .int ee)] := hl
  have hu : ∀ w ∈ u_ws RX0 TX0 4, w ∈ wsX0_checkEntry := by decide +kernel
  have hF19 := hts (.fieldLink RX0 19 "RankRows" "count" "I") (by decide +kernel)
  have SC : CallFix p m c cX0_checkEntry 2 s ([.ref h, .int ee] : List Value).toArray wsX0_checkEntry RX0 := ⟨hx, hb, hml, hown, hts⟩
  refine lv_iload_n hx hb dX0_checkEntry_0 rfl (lv_at hl 1 rfl) ?_
  refine lv_if_lt (tgt := 12) hx hb dX0_checkEntry_1 (by decide) (fun h9 => absurd h9 (he.1)) (fun _ => ?_)
  refine lv_iload_n hx hb dX0_checkEntry_4 rfl (lv_at hl 1 rfl) ?_
  refine lv_aload_n hx hb dX0_checkEntry_5 rfl (lv_at hl 0 rfl) ?_
  refine va_get (D := D) (ci := 0) (v := .int (nI cn)) (C := RX0) (T := TX0) (N := 4) hx hb hts hu hown hK hP 0 rfl rfl 3 (by decide) hF19 (fun _ h9 => h9) rfl dX0_checkEntry_6 ?_
  refine lv_icmp_lt (tgt := 22) hx hb dX0_checkEntry_9 (by decide) (fun _ => ?_) (fun h9 => absurd (he.2) h9)
  exact e_v hx hb hr hlocks hP hK hD hS dX0_checkEntry_22 (Nat.le_of_ble_eq_true rfl) (Nat.le_of_ble_eq_true rfl)
set_option maxHeartbeats 4000000 in
set_option maxRecDepth 100000 in
theorem k_ce_bad (l : Launch) (D : va_G) (ad : Nat → Nat) (cI cJ : ClassId) (tl : va_W) (h r1 f1 s1 : Nat) (R F S : Nat → Int32) (cn : Nat) (ee : Int32) (hl9 : l.stackTraces = false) (hno : ¬ rk_E ee cn) : uX l yX0_checkEntry wsX0_checkEntry ({ frames := 6, cells := 1, slots := 6, locals := 100 } : Room) D ad [(cI, .int), (cJ, .long)] [.ref h, .int ee] (wX h r1 f1 s1 cI R F S cn tl) 2 := by
  unfold uX
  refine st_T (Qc := qX D [(cI, .int), (cJ, .long)] (wX h r1 f1 s1 cI R F S cn tl)) (XC := xT D [(cI, .int), (cJ, .long)] (wX h r1 f1 s1 cI R F S cn tl) 2) (mc := 1) (ms := 6) (cc := cX0_checkEntry) (maxL := 2) (ret := none) [.ref h, .int ee] (by decide) rfl (Nat.le_of_ble_eq_true rfl) (fun p en s m below meth c A ls hex hx hb hr hlocks hml hts hown hA hS hP hK hD hX hl => ?_)
  have hown : s.vm.findClass RX0 = some m.cls := hown
  have hl : lv_has ls 2 [(0, .ref h), (1, .int ee)] := hl
  have hu : ∀ w ∈ u_ws RX0 TX0 4, w ∈ wsX0_checkEntry := by decide +kernel
  have hF19 := hts (.fieldLink RX0 19 "RankRows" "count" "I") (by decide +kernel)
  have SC : CallFix p m c cX0_checkEntry 2 s ([.ref h, .int ee] : List Value).toArray wsX0_checkEntry RX0 := ⟨hx, hb, hml, hown, hts⟩
  have hthrow : ∀ ls : Array Slot, lv_has ls 2 [(0, .ref h), (1, .int ee)] → W p l en ({ frames := 6, cells := 1, slots := 6, locals := 100 } : Room) s m ([.ref h, .int ee] : List Value).toArray below meth c s.heap [] 0 0 (vx_MQ below (qX D [(cI, .int), (cJ, .long)] (wX h r1 f1 s1 cI R F S cn tl) A) (xT D [(cI, .int), (cJ, .long)] (wX h r1 f1 s1 cI R F S cn tl) 2 A) ([.ref h, .int ee] : List Value).toArray s 1 6 A) (F0 m 12 ls []) := by
    intro ls hl
    exact nx_throw hx hb hl9 hown (hts (.classLink RX0 55 "java/util/NoSuchElementException") (by decide +kernel)) (hts (.initialized "java/util/NoSuchElementException") (by decide +kernel)) (hX.2.2.2.2 _ (List.mem_of_getElem? (i := 6) rfl)) (vx_hat (L := nx_at) (B := [.castable "java/util/NoSuchElementException" "java/util/NoSuchElementException", .declares ⟨"java/lang/RuntimeException", "<init>", "(Ljava/lang/String;)V"⟩, .declares ⟨"java/lang/Exception", "<init>", "(Ljava/lang/String;)V"⟩, .declares ⟨"java/lang/Throwable", "<init>", "(Ljava/lang/String;)V"⟩]) (fun w hw => hts w ((by decide +kernel : ∀ w ∈ (nx_at).filter goodWord, w ∈ wsX0_checkEntry) w hw)) (by decide +kernel) (vx_c (va_Nw.use rfl (hX.2.1 _ (List.mem_of_getElem? (i := 1) rfl))) (vx_c (va_Nw.use rfl (hX.2.2.1 _ (List.mem_of_getElem? (i := 0) rfl))) (vx_c (va_Nw.use rfl (hX.2.2.1 _ (List.mem_of_getElem? (i := 1) rfl))) (vx_c (va_Nw.use rfl (hX.2.2.1 _ (List.mem_of_getElem? (i := 2) rfl))) (vx_n)))))) (by decide +kernel) hX.1.1 hX.1.2 hS (hl.1.trans hml.symm) dX0_checkEntry_12 dX0_checkEntry_15 dX0_checkEntry_16 dX0_checkEntry_18 dX0_checkEntry_21 (fun x h => (hex x h).elim) (Nat.le_of_ble_eq_true rfl) (Nat.le_of_ble_eq_true rfl) (Nat.le_of_ble_eq_true rfl) (Nat.le_of_ble_eq_true rfl) hlocks (r_t (rfl) (by decide) (by decide +kernel) hP hK hD hS) hS.2.2 (Nat.le_of_ble_eq_true rfl) (Nat.le_of_ble_eq_true rfl)
  refine lv_iload_n hx hb dX0_checkEntry_0 rfl (lv_at hl 1 rfl) ?_
  refine lv_if_lt (tgt := 12) hx hb dX0_checkEntry_1 (by decide) (fun h1 => ?_) (fun h1 => ?_)
  · exact hthrow ls hl
  · refine lv_iload_n hx hb dX0_checkEntry_4 rfl (lv_at hl 1 rfl) ?_
    refine lv_aload_n hx hb dX0_checkEntry_5 rfl (lv_at hl 0 rfl) ?_
    refine va_get (D := D) (ci := 0) (v := .int (nI cn)) (C := RX0) (T := TX0) (N := 4) hx hb hts hu hown hK hP 0 rfl rfl 3 (by decide) hF19 (fun _ h9 => h9) rfl dX0_checkEntry_6 ?_
    refine lv_icmp_lt (tgt := 22) hx hb dX0_checkEntry_9 (by decide) (fun h9 => absurd ⟨h1, h9⟩ hno) (fun h2 => ?_)
    exact hthrow ls hl
set_option maxHeartbeats 4000000 in
set_option maxRecDepth 100000 in
theorem k_co_ok (l : Launch) (D : va_G) (ad : Nat → Nat) (cI cJ : ClassId) (tl : va_W) (h r1 f1 s1 : Nat) (R F S : Nat → Int32) (cn : Nat) (ee : Int32) (he : ee = -1 ∨ rk_E ee cn) : uV l yX0_checkEntryOrNone wsX0_checkEntryOrNone ({ frames := 1, cells := 0, slots := 0, locals := 40 } : Room) D ad [(cI, .int), (cJ, .long)] [.ref h, .int ee] (wX h r1 f1 s1 cI R F S cn tl) (wX h r1 f1 s1 cI R F S cn tl) 0 0 := by
  unfold uV
  refine st_M (Qc := qV D [(cI, .int), (cJ, .long)] (wX h r1 f1 s1 cI R F S cn tl)) (mc := 0) (ms := 0) (cc := cX0_checkEntryOrNone) (maxL := 2) (ret := none) [.ref h, .int ee] (by decide) rfl (Nat.le_of_ble_eq_true rfl) (fun p en s m below meth c A ls hx hb hr hlocks hml hts hown hA hS hP hK hD hX hl => ?_)
  have hown : s.vm.findClass RX0 = some m.cls := hown
  have hl : lv_has ls 2 [(0, .ref h), (1, .int ee)] := hl
  have SC : CallFix p m c cX0_checkEntryOrNone 2 s ([.ref h, .int ee] : List Value).toArray wsX0_checkEntryOrNone RX0 := ⟨hx, hb, hml, hown, hts⟩
  refine lv_iload_n hx hb dX0_checkEntryOrNone_0 rfl (lv_at hl 1 rfl) ?_
  refine lv_iconst (v := (-1)) hx hb dX0_checkEntryOrNone_1 (by decide) ?_
  refine lv_icmp_eq (tgt := 10) hx hb dX0_checkEntryOrNone_2 (by decide) (fun h1 => ?_) (fun h1 => ?_)
  · exact e_v hx hb hr hlocks hP hK hD hS dX0_checkEntryOrNone_10 (Nat.le_of_ble_eq_true rfl) (Nat.le_of_ble_eq_true rfl)
  · refine lv_aload_n hx hb dX0_checkEntryOrNone_5 rfl (lv_at hl 0 rfl) ?_
    refine lv_iload_n hx hb dX0_checkEntryOrNone_6 rfl (lv_at hl 1 rfl) ?_
    refine r_v (rm := ({ frames := 0, cells := 0, slots := 0, locals := 0 } : Room)) (As := [.int ee]) (rest := []) (k_ce_ok l D ad cI cJ tl h r1 f1 s1 R F S cn ee (he.resolve_left h1)) SC (cwV 1 hts gX0_checkEntryOrNone_X0_checkEntry rfl rfl rfl (by decide +kernel) ⟨Nat.le_of_ble_eq_true rfl, Nat.le_of_ble_eq_true rfl⟩) hP hK hD hS hA hX 0 rfl rfl rfl hl.1 rfl (Nat.le_of_ble_eq_true rfl) dX0_checkEntryOrNone_7 ⟨Nat.le_of_ble_eq_true rfl, Nat.le_of_ble_eq_true rfl⟩ (fun H locs hP hD hS => ?_)
    have hP : va_P D vwD (wX h r1 f1 s1 cI R F S cn tl) H := hP
    have hD : va_D A (wX h r1 f1 s1 cI R F S cn tl) := hD
    exact e_v hx hb hr hlocks hP hK hD hS dX0_checkEntryOrNone_10 (Nat.le_of_ble_eq_true rfl) (Nat.le_of_ble_eq_true rfl)
set_option maxHeartbeats 4000000 in
set_option maxRecDepth 100000 in
theorem k_co_bad (l : Launch) (D : va_G) (ad : Nat → Nat) (cI cJ : ClassId) (tl : va_W) (h r1 f1 s1 : Nat) (R F S : Nat → Int32) (cn : Nat) (ee : Int32) (hl9 : l.stackTraces = false) (hno : ¬ (ee = -1 ∨ rk_E ee cn)) : uX l yX0_checkEntryOrNone wsX0_checkEntryOrNone ({ frames := 7, cells := 1, slots := 6, locals := 130 } : Room) D ad [(cI, .int), (cJ, .long)] [.ref h, .int ee] (wX h r1 f1 s1 cI R F S cn tl) 2 := by
  unfold uX
  refine st_T (Qc := qX D [(cI, .int), (cJ, .long)] (wX h r1 f1 s1 cI R F S cn tl)) (XC := xT D [(cI, .int), (cJ, .long)] (wX h r1 f1 s1 cI R F S cn tl) 2) (mc := 1) (ms := 6) (cc := cX0_checkEntryOrNone) (maxL := 2) (ret := none) [.ref h, .int ee] (by decide) rfl (Nat.le_of_ble_eq_true rfl) (fun p en s m below meth c A ls hex hx hb hr hlocks hml hts hown hA hS hP hK hD hX hl => ?_)
  have hown : s.vm.findClass RX0 = some m.cls := hown
  have hl : lv_has ls 2 [(0, .ref h), (1, .int ee)] := hl
  have SC : CallFix p m c cX0_checkEntryOrNone 2 s ([.ref h, .int ee] : List Value).toArray wsX0_checkEntryOrNone RX0 := ⟨hx, hb, hml, hown, hts⟩
  refine lv_iload_n hx hb dX0_checkEntryOrNone_0 rfl (lv_at hl 1 rfl) ?_
  refine lv_iconst (v := (-1)) hx hb dX0_checkEntryOrNone_1 (by decide) ?_
  refine lv_icmp_eq (tgt := 10) hx hb dX0_checkEntryOrNone_2 (by decide) (fun h9 => absurd (Or.inl h9) hno) (fun h1 => ?_)
  refine lv_aload_n hx hb dX0_checkEntryOrNone_5 rfl (lv_at hl 0 rfl) ?_
  refine lv_iload_n hx hb dX0_checkEntryOrNone_6 rfl (lv_at hl 1 rfl) ?_
  exact r_x (rm := ({ frames := 6, cells := 1, slots := 6, locals := 100 } : Room)) (As := [.int ee]) (rest := []) (k_ce_bad l D ad cI cJ tl h r1 f1 s1 R F S cn ee hl9 (fun q => hno (Or.inr q))) SC (cwV 1 hts gX0_checkEntryOrNone_X0_checkEntry rfl rfl rfl (by decide +kernel) ⟨Nat.le_of_ble_eq_true rfl, Nat.le_of_ble_eq_true rfl⟩) hP hK hD hS hA hX 0 rfl rfl rfl hl.1 rfl (Nat.le_of_ble_eq_true rfl) dX0_checkEntryOrNone_7 ⟨Nat.le_of_ble_eq_true rfl, Nat.le_of_ble_eq_true rfl⟩ hex hlocks rfl (Nat.le_of_ble_eq_true rfl) (Nat.le_of_ble_eq_true rfl)
set_option maxHeartbeats 4000000 in
set_option maxRecDepth 100000 in
theorem k_cr_ok (l : Launch) (D : va_G) (ad : Nat → Nat) (cI cJ : ClassId) (tl : va_W) (h r1 f1 s1 : Nat) (R F S : Nat → Int32) (cn : Nat) (n : Int32) (k : Nat) (hn : n = nI k) (hc : cn ≤ 4000) (hk : k ≤ 200) (hm : cn + k ≤ 4000) : uV l yX0_checkRoomFor wsX0_checkRoomFor ({ frames := 0, cells := 0, slots := 0, locals := 0 } : Room) D ad [(cI, .int), (cJ, .long)] [.ref h, .int n] (wX h r1 f1 s1 cI R F S cn tl) (wX h r1 f1 s1 cI R F S cn tl) 0 0 := by
  subst hn
  unfold uV
  refine st_M (Qc := qV D [(cI, .int), (cJ, .long)] (wX h r1 f1 s1 cI R F S cn tl)) (mc := 0) (ms := 0) (cc := cX0_checkRoomFor) (maxL := 2) (ret := none) [.ref h, .int (nI k)] (by decide) rfl (Nat.le_of_ble_eq_true rfl) (fun p en s m below meth c A ls hx hb hr hlocks hml hts hown hA hS hP hK hD hX hl => ?_)
  have hown : s.vm.findClass RX0 = some m.cls := hown
  have hl : lv_has ls 2 [(0, .ref h), (1, .int (nI k))] := hl
  have hu : ∀ w ∈ u_ws RX0 TX0 4, w ∈ wsX0_checkRoomFor := by decide +kernel
  have hF19 := hts (.fieldLink RX0 19 "RankRows" "count" "I") (by decide +kernel)
  have SC : CallFix p m c cX0_checkRoomFor 2 s ([.ref h, .int (nI k)] : List Value).toArray wsX0_checkRoomFor RX0 := ⟨hx, hb, hml, hown, hts⟩
  refine lv_iload_n hx hb dX0_checkRoomFor_0 rfl (lv_at hl 1 rfl) ?_
  refine lv_sipush (v := 4000) hx hb dX0_checkRoomFor_1 (by decide) ?_
  refine lv_aload_n hx hb dX0_checkRoomFor_4 rfl (lv_at hl 0 rfl) ?_
  refine va_get (D := D) (ci := 0) (v := .int (nI cn)) (C := RX0) (T := TX0) (N := 4) hx hb hts hu hown hK hP 0 rfl rfl 3 (by decide) hF19 (fun _ h9 => h9) rfl dX0_checkRoomFor_5 ?_
  refine lv_isub hx hb dX0_checkRoomFor_8 ?_
  refine q_top (nI (4000 - cn)) (by rw [rk_4000]; exact pk_sub (by omega)) ?_
  refine lv_icmp_le (tgt := 22) hx hb dX0_checkRoomFor_9 (by decide) (fun _ => ?_) (fun h9 => absurd ((nI_leI (by omega) (by omega)).mpr (by omega)) h9)
  exact e_v hx hb hr hlocks hP hK hD hS dX0_checkRoomFor_22 (Nat.le_of_ble_eq_true rfl) (Nat.le_of_ble_eq_true rfl)
set_option maxHeartbeats 4000000 in
set_option maxRecDepth 100000 in
theorem k_cr_bad (l : Launch) (D : va_G) (ad : Nat → Nat) (cI cJ : ClassId) (tl : va_W) (h r1 f1 s1 : Nat) (R F S : Nat → Int32) (cn : Nat) (n : Int32) (k : Nat) (hl9 : l.stackTraces = false) (hn : n = nI k) (hc : cn ≤ 4000) (hk : k ≤ 200) (hm : ¬ cn + k ≤ 4000) : uX l yX0_checkRoomFor wsX0_checkRoomFor ({ frames := 6, cells := 1, slots := 6, locals := 100 } : Room) D ad [(cI, .int), (cJ, .long)] [.ref h, .int n] (wX h r1 f1 s1 cI R F S cn tl) 3 := by
  subst hn
  unfold uX
  refine st_T (Qc := qX D [(cI, .int), (cJ, .long)] (wX h r1 f1 s1 cI R F S cn tl)) (XC := xT D [(cI, .int), (cJ, .long)] (wX h r1 f1 s1 cI R F S cn tl) 3) (mc := 1) (ms := 6) (cc := cX0_checkRoomFor) (maxL := 2) (ret := none) [.ref h, .int (nI k)] (by decide) rfl (Nat.le_of_ble_eq_true rfl) (fun p en s m below meth c A ls hex hx hb hr hlocks hml hts hown hA hS hP hK hD hX hl => ?_)
  have hown : s.vm.findClass RX0 = some m.cls := hown
  have hl : lv_has ls 2 [(0, .ref h), (1, .int (nI k))] := hl
  have hu : ∀ w ∈ u_ws RX0 TX0 4, w ∈ wsX0_checkRoomFor := by decide +kernel
  have hF19 := hts (.fieldLink RX0 19 "RankRows" "count" "I") (by decide +kernel)
  have SC : CallFix p m c cX0_checkRoomFor 2 s ([.ref h, .int (nI k)] : List Value).toArray wsX0_checkRoomFor RX0 := ⟨hx, hb, hml, hown, hts⟩
  refine lv_iload_n hx hb dX0_checkRoomFor_0 rfl (lv_at hl 1 rfl) ?_
  refine lv_sipush (v := 4000) hx hb dX0_checkRoomFor_1 (by decide) ?_
  refine lv_aload_n hx hb dX0_checkRoomFor_4 rfl (lv_at hl 0 rfl) ?_
  refine va_get (D := D) (ci := 0) (v := .int (nI cn)) (C := RX0) (T := TX0) (N := 4) hx hb hts hu hown hK hP 0 rfl rfl 3 (by decide) hF19 (fun _ h9 => h9) rfl dX0_checkRoomFor_5 ?_
  refine lv_isub hx hb dX0_checkRoomFor_8 ?_
  refine q_top (nI (4000 - cn)) (by rw [rk_4000]; exact pk_sub (by omega)) ?_
  refine lv_icmp_le (tgt := 22) hx hb dX0_checkRoomFor_9 (by decide) (fun h9 => absurd h9 (fun q => hm (by have := (nI_leI (by omega) (by omega)).mp q; omega))) (fun _ => ?_)
  exact vx_throwS (own := RX0) (cls := "java/lang/IllegalStateException") (names := ["java/lang/RuntimeException", "java/lang/Exception"]) hx hb hl9 hown (by decide +kernel) (by decide +kernel) (hts (.classLink RX0 74 "java/lang/IllegalStateException") (by decide +kernel)) (hts (.initialized "java/lang/IllegalStateException") (by decide +kernel)) (hX.2.2.2.2 _ (List.mem_of_getElem? (i := 7) rfl)) (vx_hat (L := vx_atS RX0 78 "java/lang/IllegalStateException" ["java/lang/RuntimeException", "java/lang/Exception"]) (B := [.castable "java/lang/IllegalStateException" "java/lang/IllegalStateException", .declares ⟨"java/lang/RuntimeException", "<init>", "(Ljava/lang/String;)V"⟩, .declares ⟨"java/lang/Exception", "<init>", "(Ljava/lang/String;)V"⟩, .declares ⟨"java/lang/Throwable", "<init>", "(Ljava/lang/String;)V"⟩]) (fun w hw => hts w ((by decide +kernel : ∀ w ∈ (vx_atS RX0 78 "java/lang/IllegalStateException" ["java/lang/RuntimeException", "java/lang/Exception"]).filter goodWord, w ∈ wsX0_checkRoomFor) w hw)) (by decide +kernel) (vx_c (va_Nw.use rfl (hX.2.1 _ (List.mem_of_getElem? (i := 2) rfl))) (vx_c (va_Nw.use rfl (hX.2.2.1 _ (List.mem_of_getElem? (i := 0) rfl))) (vx_c (va_Nw.use rfl (hX.2.2.1 _ (List.mem_of_getElem? (i := 1) rfl))) (vx_c (va_Nw.use rfl (hX.2.2.1 _ (List.mem_of_getElem? (i := 2) rfl))) (vx_n)))))) (by decide +kernel) hX.1.1 hX.1.2 hS (hl.1.trans hml.symm) dX0_checkRoomFor_12 dX0_checkRoomFor_15 dX0_checkRoomFor_16 dX0_checkRoomFor_18 dX0_checkRoomFor_21 (fun x h => (hex x h).elim) (Nat.le_of_ble_eq_true rfl) (Nat.le_of_ble_eq_true rfl) (Nat.le_of_ble_eq_true rfl) (Nat.le_of_ble_eq_true rfl) hlocks (r_t (rfl) (by decide) (by decide +kernel) hP hK hD hS) hS.2.2 (Nat.le_of_ble_eq_true rfl) (Nat.le_of_ble_eq_true rfl)
set_option maxHeartbeats 4000000 in
set_option maxRecDepth 100000 in
theorem k_po (l : Launch) (D : va_G) (ad : Nat → Nat) (cI cJ : ClassId) (tl : va_W) (h r1 f1 s1 : Nat) (R F S : Nat → Int32) (cn : Nat) (ee : Int32) (hc : cn ≤ 4000) : uI l yX0_placeOf wsX0_placeOf ({ frames := 0, cells := 0, slots := 0, locals := 0 } : Room) D ad [(cI, .int), (cJ, .long)] [.ref h, .int ee] (wX h r1 f1 s1 cI R F S cn tl) (wX h r1 f1 s1 cI R F S cn tl) (nI (rk_pl R ee cn)) 0 0 := by
  unfold uI
  refine st_M (Qc := qI D [(cI, .int), (cJ, .long)] (wX h r1 f1 s1 cI R F S cn tl) (nI (rk_pl R ee cn))) (mc := 0) (ms := 0) (cc := cX0_placeOf) (maxL := 3) (ret := (some .int)) [.ref h, .int ee] (by decide) rfl (Nat.le_of_ble_eq_true rfl) (fun p en s m below meth c A ls hx hb hr hlocks hml hts hown hA hS hP hK hD hX hl => ?_)
  have hown : s.vm.findClass RX0 = some m.cls := hown
  have hl : lv_has ls 3 [(0, .ref h), (1, .int ee)] := hl
  have hu : ∀ w ∈ u_ws RX0 TX0 4, w ∈ wsX0_placeOf := by decide +kernel
  have hF9 := hts (.fieldLink RX0 9 "RankRows" "row" "[I") (by decide +kernel)
  have hF19 := hts (.fieldLink RX0 19 "RankRows" "count" "I") (by decide +kernel)
  refine lv_iconst (v := 0) hx hb dX0_placeOf_0 (by decide) ?_
  refine lv_istore_n (lv' := [(2, .int 0), (0, .ref h), (1, .int ee)]) hx hb dX0_placeOf_1 rfl hl (by decide) rfl (fun ls hl => ?_)
  have loop : ∀ (d k : Nat), cn - k < d → k ≤ cn → (∀ j, j < k → ¬ R j = ee) → ∀ ls : Array Slot, lv_has ls 3 [(2, .int (nI k)), (0, .ref h), (1, .int ee)] → W p l en ({ frames := 0, cells := 0, slots := 0, locals := 0 } : Room) s m ([.ref h, .int ee] : List Value).toArray below meth c s.heap [] 0 0 (MQ below (qI D [(cI, .int), (cJ, .long)] (wX h r1 f1 s1 cI R F S cn tl) (nI (rk_pl R ee cn)) A) ([.ref h, .int ee] : List Value).toArray s 0 0 A) (F0 m 2 ls []) := by
    intro d
    induction d with
    | zero => intro k hd; exact absurd hd (Nat.not_lt_zero _)
    | succ d ih =>
      intro k hd hk hno ls hl
      refine lv_iload_n hx hb dX0_placeOf_2 rfl (lv_at hl 0 rfl) ?_
      refine lv_aload_n hx hb dX0_placeOf_3 rfl (lv_at hl 1 rfl) ?_
      refine va_get (D := D) (ci := 0) (v := .int (nI cn)) (C := RX0) (T := TX0) (N := 4) hx hb hts hu hown hK hP 0 rfl rfl 3 (by decide) hF19 (fun _ h9 => h9) rfl dX0_placeOf_4 ?_
      refine lv_icmp_ge (tgt := 26) hx hb dX0_placeOf_7 (by decide) (fun h1 => ?_) (fun h1 => ?_)
      · have hkc : cn ≤ k := (nI_leI (by omega) (by omega)).mp h1
        refine lv_iload_n hx hb dX0_placeOf_26 rfl (lv_at hl 0 rfl) ?_
        refine q_top (nI (rk_pl R ee cn)) (by rw [rk_pl_eq hk hno (fun q => absurd q (by omega))]) ?_
        exact e_i hx hb hr hlocks hP hK hD hS dX0_placeOf_27 (Nat.le_of_ble_eq_true rfl) (Nat.le_of_ble_eq_true rfl)
      · have hkc : k < cn := Nat.lt_of_not_le (fun q => h1 ((nI_leI (by omega) (by omega)).mpr q))
        refine lv_aload_n hx hb dX0_placeOf_10 rfl (lv_at hl 1 rfl) ?_
        refine va_get (D := D) (ci := 0) (v := .ref r1) (C := RX0) (T := TX0) (N := 4) hx hb hts hu hown hK hP 0 rfl rfl 0 (by decide) hF9 (fun _ h9 => h9) rfl dX0_placeOf_11 ?_
        refine lv_iload_n hx hb dX0_placeOf_14 rfl (lv_at hl 0 rfl) ?_
        refine q_iald hx hb hK hP 1 0 rfl rfl k (by omega) (Nat.le_refl _) rfl dX0_placeOf_15 ?_
        refine lv_iload_n hx hb dX0_placeOf_16 rfl (lv_at hl 2 rfl) ?_
        refine lv_icmp_eq (tgt := 26) hx hb dX0_placeOf_17 (by decide) (fun h2 => ?_) (fun h2 => ?_)
        · refine lv_iload_n hx hb dX0_placeOf_26 rfl (lv_at hl 0 rfl) ?_
          refine q_top (nI (rk_pl R ee cn)) (by rw [rk_pl_eq hk hno (fun _ => h2)]) ?_
          exact e_i hx hb hr hlocks hP hK hD hS dX0_placeOf_27 (Nat.le_of_ble_eq_true rfl) (Nat.le_of_ble_eq_true rfl)
        · refine lv_iinc (k := 0) (v := nI (k + 1)) (lv' := [(2, .int (nI (k + 1))), (0, .ref h), (1, .int ee)]) hx hb dX0_placeOf_20 hl rfl (by rw [(by decide : Int32.ofInt 1 = 1)]; exact nI_1 _) (by decide) rfl (fun ls hl => ?_)
          refine lv_goto (tgt := 2) hx hb dX0_placeOf_23 (by decide) ?_
          exact ih (k + 1) (by omega) (by omega) (fun j hj => (Nat.lt_succ_iff_lt_or_eq.mp hj).elim (fun q => hno j q) (fun q => by rw [q]; exact h2)) ls hl
  have hl : lv_has ls 3 [(2, .int (nI 0)), (0, .ref h), (1, .int ee)] := hl
  exact loop (cn + 1) 0 (by omega) (Nat.zero_le _) (fun j q => absurd q (Nat.not_lt_zero j)) ls hl
set_option maxHeartbeats 4000000 in
set_option maxRecDepth 100000 in
theorem k_pb (l : Launch) (D : va_G) (ad : Nat → Nat) (cI cJ : ClassId) (tl : va_W) (h r1 f1 s1 : Nat) (R F S : Nat → Int32) (cn : Nat) (ee : Int32) (hc : cn ≤ 4000) : uI l yX0_placeBehind wsX0_placeBehind ({ frames := 1, cells := 0, slots := 0, locals := 40 } : Room) D ad [(cI, .int), (cJ, .long)] [.ref h, .int ee] (wX h r1 f1 s1 cI R F S cn tl) (wX h r1 f1 s1 cI R F S cn tl) (nI (rk_pb R ee cn)) 0 0 := by
  unfold uI
  refine st_M (Qc := qI D [(cI, .int), (cJ, .long)] (wX h r1 f1 s1 cI R F S cn tl) (nI (rk_pb R ee cn))) (mc := 0) (ms := 0) (cc := cX0_placeBehind) (maxL := 2) (ret := (some .int)) [.ref h, .int ee] (by decide) rfl (Nat.le_of_ble_eq_true rfl) (fun p en s m below meth c A ls hx hb hr hlocks hml hts hown hA hS hP hK hD hX hl => ?_)
  have hown : s.vm.findClass RX0 = some m.cls := hown
  have hl : lv_has ls 2 [(0, .ref h), (1, .int ee)] := hl
  have SC : CallFix p m c cX0_placeBehind 2 s ([.ref h, .int ee] : List Value).toArray wsX0_placeBehind RX0 := ⟨hx, hb, hml, hown, hts⟩
  refine lv_iload_n hx hb dX0_placeBehind_0 rfl (lv_at hl 1 rfl) ?_
  refine lv_iconst (v := (-1)) hx hb dX0_placeBehind_1 (by decide) ?_
  refine lv_icmp_ne (tgt := 9) hx hb dX0_placeBehind_2 (by decide) (fun h1 => ?_) (fun h1 => ?_)
  · refine lv_aload_n hx hb dX0_placeBehind_9 rfl (lv_at hl 0 rfl) ?_
    refine lv_iload_n hx hb dX0_placeBehind_10 rfl (lv_at hl 1 rfl) ?_
    refine r_i (rm := ({ frames := 0, cells := 0, slots := 0, locals := 0 } : Room)) (As := [.int ee]) (rest := []) (k_po l D ad cI cJ tl h r1 f1 s1 R F S cn ee hc) SC (cwV 1 hts gX0_placeBehind_X0_placeOf rfl rfl rfl (by decide +kernel) ⟨Nat.le_of_ble_eq_true rfl, Nat.le_of_ble_eq_true rfl⟩) hP hK hD hS hA hX 0 rfl rfl rfl hl.1 rfl (Nat.le_of_ble_eq_true rfl) dX0_placeBehind_11 ⟨Nat.le_of_ble_eq_true rfl, Nat.le_of_ble_eq_true rfl⟩ (fun H locs hP hD hS => ?_)
    have hP : va_P D vwD (wX h r1 f1 s1 cI R F S cn tl) H := hP
    have hD : va_D A (wX h r1 f1 s1 cI R F S cn tl) := hD
    refine lv_iconst (v := 1) hx hb dX0_placeBehind_14 (by decide) ?_
    refine lv_iadd hx hb dX0_placeBehind_15 ?_
    refine q_top (nI ((rk_pl R ee cn) + 1)) (nI_1 _) ?_
    refine q_top (nI (rk_pb R ee cn)) (by rw [rk_pb_n h1]) ?_
    exact e_i hx hb hr hlocks hP hK hD hS dX0_placeBehind_16 (Nat.le_of_ble_eq_true rfl) (Nat.le_of_ble_eq_true rfl)
  · refine lv_iconst (v := 0) hx hb dX0_placeBehind_5 (by decide) ?_
    refine lv_goto (tgt := 16) hx hb dX0_placeBehind_6 (by decide) ?_
    refine q_top (nI (rk_pb R ee cn)) (by rw [h1, rk_pb_m, nI_0]) ?_
    exact e_i hx hb hr hlocks hP hK hD hS dX0_placeBehind_16 (Nat.le_of_ble_eq_true rfl) (Nat.le_of_ble_eq_true rfl)
set_option maxHeartbeats 4000000 in
set_option maxRecDepth 100000 in
theorem k_sf (l : Launch) (D : va_G) (ad : Nat → Nat) (cI cJ : ClassId) (tl : va_W) (h r1 f1 s1 : Nat) (R F S : Nat → Int32) (cn : Nat) (q : Nat) (hR : rk_ok R cn) (hq : q ≤ cn) : uI l yX0_sumInFrontOf wsX0_sumInFrontOf ({ frames := 0, cells := 0, slots := 0, locals := 0 } : Room) D ad [(cI, .int), (cJ, .long)] [.ref h, .int (nI q), .ref f1] (wX h r1 f1 s1 cI R F S cn tl) (wX h r1 f1 s1 cI R F S cn tl) (rk_sm R F q) 0 0 := by
  unfold uI
  refine st_M (Qc := qI D [(cI, .int), (cJ, .long)] (wX h r1 f1 s1 cI R F S cn tl) (rk_sm R F q)) (mc := 0) (ms := 0) (cc := cX0_sumInFrontOf) (maxL := 5) (ret := (some .int)) [.ref h, .int (nI q), .ref f1] (by decide) rfl (Nat.le_of_ble_eq_true rfl) (fun p en s m below meth c A ls hx hb hr hlocks hml hts hown hA hS hP hK hD hX hl => ?_)
  have hown : s.vm.findClass RX0 = some m.cls := hown
  have hl : lv_has ls 5 [(0, .ref h), (1, .int (nI q)), (2, .ref f1)] := hl
  have hu : ∀ w ∈ u_ws RX0 TX0 4, w ∈ wsX0_sumInFrontOf := by decide +kernel
  have hF9 := hts (.fieldLink RX0 9 "RankRows" "row" "[I") (by decide +kernel)
  have hc := hR.1
  refine lv_iconst (v := 0) hx hb dX0_sumInFrontOf_0 (by decide) ?_
  refine lv_istore_n (lv' := [(3, .int 0), (0, .ref h), (1, .int (nI q)), (2, .ref f1)]) hx hb dX0_sumInFrontOf_1 rfl hl (by decide) rfl (fun ls hl => ?_)
  refine lv_iconst (v := 0) hx hb dX0_sumInFrontOf_2 (by decide) ?_
  refine lv_istore (lv' := [(4, .int 0), (3, .int 0), (0, .ref h), (1, .int (nI q)), (2, .ref f1)]) hx hb dX0_sumInFrontOf_3 hl (by decide) rfl (fun ls hl => ?_)
  have loop : ∀ (d k : Nat), q - k < d → k ≤ q → ∀ ls : Array Slot, lv_has ls 5 [(4, .int (nI k)), (3, .int (rk_sm R F k)), (0, .ref h), (1, .int (nI q)), (2, .ref f1)] → W p l en ({ frames := 0, cells := 0, slots := 0, locals := 0 } : Room) s m ([.ref h, .int (nI q), .ref f1] : List Value).toArray below meth c s.heap [] 0 0 (MQ below (qI D [(cI, .int), (cJ, .long)] (wX h r1 f1 s1 cI R F S cn tl) (rk_sm R F q) A) ([.ref h, .int (nI q), .ref f1] : List Value).toArray s 0 0 A) (F0 m 5 ls []) := by
    intro d
    induction d with
    | zero => intro k hd; exact absurd hd (Nat.not_lt_zero _)
    | succ d ih =>
      intro k hd hk ls hl
      refine lv_iload hx hb dX0_sumInFrontOf_5 (lv_at hl 0 rfl) ?_
      refine lv_iload_n hx hb dX0_sumInFrontOf_7 rfl (lv_at hl 3 rfl) ?_
      refine lv_icmp_ge (tgt := 29) hx hb dX0_sumInFrontOf_8 (by decide) (fun h1 => ?_) (fun h1 => ?_)
      · have hkq : q ≤ k := (nI_leI (by omega) (by omega)).mp h1
        refine lv_iload_n hx hb dX0_sumInFrontOf_29 rfl (lv_at hl 1 rfl) ?_
        refine q_top (rk_sm R F q) (by rw [show k = q by omega]) ?_
        exact e_i hx hb hr hlocks hP hK hD hS dX0_sumInFrontOf_30 (Nat.le_of_ble_eq_true rfl) (Nat.le_of_ble_eq_true rfl)
      · have hkq : k < q := Nat.lt_of_not_le (fun z => h1 ((nI_leI (by omega) (by omega)).mpr z))
        obtain ⟨j, hj, hRk⟩ := hR.2.1 k (by omega)
        refine lv_iload_n hx hb dX0_sumInFrontOf_11 rfl (lv_at hl 1 rfl) ?_
        refine lv_aload_n hx hb dX0_sumInFrontOf_12 rfl (lv_at hl 4 rfl) ?_
        refine lv_aload_n hx hb dX0_sumInFrontOf_13 rfl (lv_at hl 2 rfl) ?_
        refine va_get (D := D) (ci := 0) (v := .ref r1) (C := RX0) (T := TX0) (N := 4) hx hb hts hu hown hK hP 0 rfl rfl 0 (by decide) hF9 (fun _ h9 => h9) rfl dX0_sumInFrontOf_14 ?_
        refine lv_iload hx hb dX0_sumInFrontOf_17 (lv_at hl 0 rfl) ?_
        refine q_iald hx hb hK hP 1 0 rfl rfl k (by omega) (Nat.le_refl _) rfl dX0_sumInFrontOf_19 ?_
        refine q_iald hx hb hK hP 2 0 rfl rfl j (by omega) (Nat.le_refl _) hRk dX0_sumInFrontOf_20 ?_
        refine lv_iadd hx hb dX0_sumInFrontOf_21 ?_
        refine q_top (rk_sm R F (k + 1)) (by show _ = rk_sm R F k + F (R k).toNatClampNeg; rw [hRk, rk_cl j (by omega)]) ?_
        refine lv_istore_n (lv' := [(3, .int (rk_sm R F (k + 1))), (4, .int (nI k)), (0, .ref h), (1, .int (nI q)), (2, .ref f1)]) hx hb dX0_sumInFrontOf_22 rfl hl (by decide) rfl (fun ls hl => ?_)
        refine lv_iinc (k := 1) (v := nI (k + 1)) (lv' := [(4, .int (nI (k + 1))), (3, .int (rk_sm R F (k + 1))), (0, .ref h), (1, .int (nI q)), (2, .ref f1)]) hx hb dX0_sumInFrontOf_23 hl rfl (by rw [(by decide : Int32.ofInt 1 = 1)]; exact nI_1 _) (by decide) rfl (fun ls hl => ?_)
        refine lv_goto (tgt := 5) hx hb dX0_sumInFrontOf_26 (by decide) ?_
        exact ih (k + 1) (by omega) (by omega) ls hl
  have hl : lv_has ls 5 [(4, .int (nI 0)), (3, .int (rk_sm R F 0)), (0, .ref h), (1, .int (nI q)), (2, .ref f1)] := hl
  exact loop (q + 1) 0 (by omega) (Nat.zero_le _) ls hl
set_option maxHeartbeats 4000000 in
set_option maxRecDepth 100000 in
theorem k_ss (l : Launch) (D : va_G) (ad : Nat → Nat) (cI cJ : ClassId) (tl : va_W) (h r1 f1 s1 : Nat) (R F S : Nat → Int32) (cn : Nat) (q : Nat) (hR : rk_ok R cn) (hq : q ≤ cn) : uI l yX0_sumInFrontOf wsX0_sumInFrontOf ({ frames := 0, cells := 0, slots := 0, locals := 0 } : Room) D ad [(cI, .int), (cJ, .long)] [.ref h, .int (nI q), .ref s1] (wX h r1 f1 s1 cI R F S cn tl) (wX h r1 f1 s1 cI R F S cn tl) (rk_sm R S q) 0 0 := by
  unfold uI
  refine st_M (Qc := qI D [(cI, .int), (cJ, .long)] (wX h r1 f1 s1 cI R F S cn tl) (rk_sm R S q)) (mc := 0) (ms := 0) (cc := cX0_sumInFrontOf) (maxL := 5) (ret := (some .int)) [.ref h, .int (nI q), .ref s1] (by decide) rfl (Nat.le_of_ble_eq_true rfl) (fun p en s m below meth c A ls hx hb hr hlocks hml hts hown hA hS hP hK hD hX hl => ?_)
  have hown : s.vm.findClass RX0 = some m.cls := hown
  have hl : lv_has ls 5 [(0, .ref h), (1, .int (nI q)), (2, .ref s1)] := hl
  have hu : ∀ w ∈ u_ws RX0 TX0 4, w ∈ wsX0_sumInFrontOf := by decide +kernel
  have hF9 := hts (.fieldLink RX0 9 "RankRows" "row" "[I") (by decide +kernel)
  have hc := hR.1
  refine lv_iconst (v := 0) hx hb dX0_sumInFrontOf_0 (by decide) ?_
  refine lv_istore_n (lv' := [(3, .int 0), (0, .ref h), (1, .int (nI q)), (2, .ref s1)]) hx hb dX0_sumInFrontOf_1 rfl hl (by decide) rfl (fun ls hl => ?_)
  refine lv_iconst (v := 0) hx hb dX0_sumInFrontOf_2 (by decide) ?_
  refine lv_istore (lv' := [(4, .int 0), (3, .int 0), (0, .ref h), (1, .int (nI q)), (2, .ref s1)]) hx hb dX0_sumInFrontOf_3 hl (by decide) rfl (fun ls hl => ?_)
  have loop : ∀ (d k : Nat), q - k < d → k ≤ q → ∀ ls : Array Slot, lv_has ls 5 [(4, .int (nI k)), (3, .int (rk_sm R S k)), (0, .ref h), (1, .int (nI q)), (2, .ref s1)] → W p l en ({ frames := 0, cells := 0, slots := 0, locals := 0 } : Room) s m ([.ref h, .int (nI q), .ref s1] : List Value).toArray below meth c s.heap [] 0 0 (MQ below (qI D [(cI, .int), (cJ, .long)] (wX h r1 f1 s1 cI R F S cn tl) (rk_sm R S q) A) ([.ref h, .int (nI q), .ref s1] : List Value).toArray s 0 0 A) (F0 m 5 ls []) := by
    intro d
    induction d with
    | zero => intro k hd; exact absurd hd (Nat.not_lt_zero _)
    | succ d ih =>
      intro k hd hk ls hl
      refine lv_iload hx hb dX0_sumInFrontOf_5 (lv_at hl 0 rfl) ?_
      refine lv_iload_n hx hb dX0_sumInFrontOf_7 rfl (lv_at hl 3 rfl) ?_
      refine lv_icmp_ge (tgt := 29) hx hb dX0_sumInFrontOf_8 (by decide) (fun h1 => ?_) (fun h1 => ?_)
      · have hkq : q ≤ k := (nI_leI (by omega) (by omega)).mp h1
        refine lv_iload_n hx hb dX0_sumInFrontOf_29 rfl (lv_at hl 1 rfl) ?_
        refine q_top (rk_sm R S q) (by rw [show k = q by omega]) ?_
        exact e_i hx hb hr hlocks hP hK hD hS dX0_sumInFrontOf_30 (Nat.le_of_ble_eq_true rfl) (Nat.le_of_ble_eq_true rfl)
      · have hkq : k < q := Nat.lt_of_not_le (fun z => h1 ((nI_leI (by omega) (by omega)).mpr z))
        obtain ⟨j, hj, hRk⟩ := hR.2.1 k (by omega)
        refine lv_iload_n hx hb dX0_sumInFrontOf_11 rfl (lv_at hl 1 rfl) ?_
        refine lv_aload_n hx hb dX0_sumInFrontOf_12 rfl (lv_at hl 4 rfl) ?_
        refine lv_aload_n hx hb dX0_sumInFrontOf_13 rfl (lv_at hl 2 rfl) ?_
        refine va_get (D := D) (ci := 0) (v := .ref r1) (C := RX0) (T := TX0) (N := 4) hx hb hts hu hown hK hP 0 rfl rfl 0 (by decide) hF9 (fun _ h9 => h9) rfl dX0_sumInFrontOf_14 ?_
        refine lv_iload hx hb dX0_sumInFrontOf_17 (lv_at hl 0 rfl) ?_
        refine q_iald hx hb hK hP 1 0 rfl rfl k (by omega) (Nat.le_refl _) rfl dX0_sumInFrontOf_19 ?_
        refine q_iald hx hb hK hP 3 0 rfl rfl j (by omega) (Nat.le_refl _) hRk dX0_sumInFrontOf_20 ?_
        refine lv_iadd hx hb dX0_sumInFrontOf_21 ?_
        refine q_top (rk_sm R S (k + 1)) (by show _ = rk_sm R S k + S (R k).toNatClampNeg; rw [hRk, rk_cl j (by omega)]) ?_
        refine lv_istore_n (lv' := [(3, .int (rk_sm R S (k + 1))), (4, .int (nI k)), (0, .ref h), (1, .int (nI q)), (2, .ref s1)]) hx hb dX0_sumInFrontOf_22 rfl hl (by decide) rfl (fun ls hl => ?_)
        refine lv_iinc (k := 1) (v := nI (k + 1)) (lv' := [(4, .int (nI (k + 1))), (3, .int (rk_sm R S (k + 1))), (0, .ref h), (1, .int (nI q)), (2, .ref s1)]) hx hb dX0_sumInFrontOf_23 hl rfl (by rw [(by decide : Int32.ofInt 1 = 1)]; exact nI_1 _) (by decide) rfl (fun ls hl => ?_)
        refine lv_goto (tgt := 5) hx hb dX0_sumInFrontOf_26 (by decide) ?_
        exact ih (k + 1) (by omega) (by omega) ls hl
  have hl : lv_has ls 5 [(4, .int (nI 0)), (3, .int (rk_sm R S 0)), (0, .ref h), (1, .int (nI q)), (2, .ref s1)] := hl
  exact loop (q + 1) 0 (by omega) (Nat.zero_le _) ls hl
set_option maxHeartbeats 4000000 in
set_option maxRecDepth 100000 in
theorem k_pa (l : Launch) (D : va_G) (ad : Nat → Nat) (cI cJ : ClassId) (tl : va_W) (h r1 f1 s1 : Nat) (R F S : Nat → Int32) (cn : Nat) (x n a b : Int32) (q k : Nat) (hxq : x = nI q) (hn : n = nI k) (hq : q ≤ cn) (hm : cn + k ≤ 4000) : uV l yX0_putAt wsX0_putAt ({ frames := 1, cells := 0, slots := 0, locals := 100 } : Room) D ad [(cI, .int), (cJ, .long)] [.ref h, .int x, .int n, .int a, .int b] (wX h r1 f1 s1 cI R F S cn tl) (wX h r1 f1 s1 cI (rk_in R cn q k) (rk_fl F cn k a) (rk_fl S cn k b) (cn + k) tl) 0 0 := by
  subst hxq
  subst hn
  unfold uV
  refine st_M (Qc := qV D [(cI, .int), (cJ, .long)] (wX h r1 f1 s1 cI (rk_in R cn q k) (rk_fl F cn k a) (rk_fl S cn k b) (cn + k) tl)) (mc := 0) (ms := 0) (cc := cX0_putAt) (maxL := 7) (ret := none) [.ref h, .int (nI q), .int (nI k), .int a, .int b] (by decide) rfl (Nat.le_of_ble_eq_true rfl) (fun p en s m below meth c A ls hx hb hr hlocks hml hts hown hA hS hP hK hD hX hl => ?_)
  have hown : s.vm.findClass RX0 = some m.cls := hown
  have hl : lv_has ls 7 [(0, .ref h), (1, .int (nI q)), (2, .int (nI k)), (3, .int a), (4, .int b)] := hl
  have hu : ∀ w ∈ u_ws RX0 TX0 4, w ∈ wsX0_putAt := by decide +kernel
  have hF9 := hts (.fieldLink RX0 9 "RankRows" "row" "[I") (by decide +kernel)
  have hF13 := hts (.fieldLink RX0 13 "RankRows" "firsts" "[I") (by decide +kernel)
  have hF16 := hts (.fieldLink RX0 16 "RankRows" "seconds" "[I") (by decide +kernel)
  have hF19 := hts (.fieldLink RX0 19 "RankRows" "count" "I") (by decide +kernel)
  have SC : CallFix p m c cX0_putAt 7 s ([.ref h, .int (nI q), .int (nI k), .int a, .int b] : List Value).toArray wsX0_putAt RX0 := ⟨hx, hb, hml, hown, hts⟩
  refine lv_aload_n hx hb dX0_putAt_0 rfl (lv_at hl 0 rfl) ?_
  refine va_get (D := D) (ci := 0) (v := .ref r1) (C := RX0) (T := TX0) (N := 4) hx hb hts hu hown hK hP 0 rfl rfl 0 (by decide) hF9 (fun _ h9 => h9) rfl dX0_putAt_1 ?_
  refine lv_iload_n hx hb dX0_putAt_4 rfl (lv_at hl 1 rfl) ?_
  refine lv_aload_n hx hb dX0_putAt_5 rfl (lv_at hl 0 rfl) ?_
  refine va_get (D := D) (ci := 0) (v := .ref r1) (C := RX0) (T := TX0) (N := 4) hx hb hts hu hown hK hP 0 rfl rfl 0 (by decide) hF9 (fun _ h9 => h9) rfl dX0_putAt_6 ?_
  refine lv_iload_n hx hb dX0_putAt_9 rfl (lv_at hl 1 rfl) ?_
  refine lv_iload_n hx hb dX0_putAt_10 rfl (lv_at hl 2 rfl) ?_
  refine lv_iadd hx hb dX0_putAt_11 ?_
  refine q_top (nI (q + k)) (nI_add _ _) ?_
  refine lv_aload_n hx hb dX0_putAt_12 rfl (lv_at hl 0 rfl) ?_
  refine va_get (D := D) (ci := 0) (v := .int (nI cn)) (C := RX0) (T := TX0) (N := 4) hx hb hts hu hown hK hP 0 rfl rfl 3 (by decide) hF19 (fun _ h9 => h9) rfl dX0_putAt_13 ?_
  refine lv_iload_n hx hb dX0_putAt_16 rfl (lv_at hl 1 rfl) ?_
  refine lv_isub hx hb dX0_putAt_17 ?_
  refine q_top (nI (cn - q)) (pk_sub hq) ?_
  refine va_copyi (ty := .int) hx hb (hml.trans hl.1.symm) hown (hts (.methodLink RX0 79 arraycopyName) (by decide +kernel)) (hts (.native arraycopyName) (by decide +kernel)) (hts (.static arraycopyName) (by decide +kernel)) (hts (.initialized "java/lang/System") (by decide +kernel)) hK hP hD hS 1 1 0 0 rfl rfl rfl rfl rfl (nI_pos (by omega)) (nI_pos (by omega)) (nI_pos (by omega)) (by rw [rk_cl q (by omega), rk_cl (cn - q) (by omega)]; omega) (by rw [rk_cl (q + k) (by omega), rk_cl (cn - q) (by omega)]; omega) (fun _ _ => rfl) (Nat.le_of_ble_eq_true rfl) (Nat.le_of_ble_eq_true rfl) dX0_putAt_18 (fun H locs hP hD hS => ?_)
  rw [rk_cl q (by omega), rk_cl (q + k) (by omega), rk_cl (cn - q) (by omega), rk_pu_0] at hP hD
  have hP : va_P D vwD (wX h r1 f1 s1 cI (rk_pu R cn q k 0) F S cn tl) H := hP
  have hD : va_D A (wX h r1 f1 s1 cI (rk_pu R cn q k 0) F S cn tl) := hD
  refine lv_iconst (v := 0) hx hb dX0_putAt_21 (by decide) ?_
  refine lv_istore (lv' := [(5, .int 0), (0, .ref h), (1, .int (nI q)), (2, .int (nI k)), (3, .int a), (4, .int b)]) hx hb dX0_putAt_22 hl (by decide) rfl (fun ls hl => ?_)
  have loop : ∀ (d i : Nat), k - i < d → i ≤ k → ∀ (H : Heap) (locs : List Loc), va_P D vwD (wX h r1 f1 s1 cI (rk_pu R cn q k i) (rk_fl F cn i a) (rk_fl S cn i b) cn tl) H → va_D A (wX h r1 f1 s1 cI (rk_pu R cn q k i) (rk_fl F cn i a) (rk_fl S cn i b) cn tl) → va_S A s.heap H locs → ∀ ls : Array Slot, lv_has ls 7 [(5, .int (nI i)), (0, .ref h), (1, .int (nI q)), (2, .int (nI k)), (3, .int a), (4, .int b)] → W p l en ({ frames := 1, cells := 0, slots := 0, locals := 100 } : Room) s m ([.ref h, .int (nI q), .int (nI k), .int a, .int b] : List Value).toArray below meth c H locs 0 0 (MQ below (qV D [(cI, .int), (cJ, .long)] (wX h r1 f1 s1 cI (rk_in R cn q k) (rk_fl F cn k a) (rk_fl S cn k b) (cn + k) tl) A) ([.ref h, .int (nI q), .int (nI k), .int a, .int b] : List Value).toArray s 0 0 A) (F0 m 24 ls []) := by
    intro d
    induction d with
    | zero => intro i hd; exact absurd hd (Nat.not_lt_zero _)
    | succ d ih =>
      intro i hd hik H locs hP hD hS ls hl
      refine lv_iload hx hb dX0_putAt_24 (lv_at hl 0 rfl) ?_
      refine lv_iload_n hx hb dX0_putAt_26 rfl (lv_at hl 3 rfl) ?_
      refine lv_icmp_ge (tgt := 73) hx hb dX0_putAt_27 (by decide) (fun h1 => ?_) (fun h1 => ?_)
      · have hki : i = k := by have := (nI_leI (by omega) (by omega)).mp h1; omega
        rw [hki, rk_pu_n R k hq] at hP hD
        refine lv_aload_n hx hb dX0_putAt_73 rfl (lv_at hl 1 rfl) ?_
        refine lv_dup hx hb dX0_putAt_74 rfl ?_
        refine va_get (D := D) (ci := 0) (v := .int (nI cn)) (C := RX0) (T := TX0) (N := 4) hx hb hts hu hown hK hP 0 rfl rfl 3 (by decide) hF19 (fun _ h9 => h9) rfl dX0_putAt_75 ?_
        refine lv_iload_n hx hb dX0_putAt_78 rfl (lv_at hl 3 rfl) ?_
        refine lv_iadd hx hb dX0_putAt_79 ?_
        refine q_top (nI (cn + k)) (nI_add _ _) ?_
        refine va_put (D := D) (ci := 0) (v := .int (nI (cn + k))) (ty := .int) (C := RX0) (T := TX0) (N := 4) hx hb hts hu tyX0 tyX0_ok nmX0 hown hK hP hD hS 0 rfl rfl 3 (by decide) hF19 (fun _ h9 => h9) rfl (by decide +kernel) rfl rfl (Nat.le_of_ble_eq_true rfl) dX0_putAt_80 (fun H locs hP hD hS => ?_)
        have hP : va_P D vwD (wX h r1 f1 s1 cI (rk_in R cn q k) (rk_fl F cn k a) (rk_fl S cn k b) (cn + k) tl) H := hP
        have hD : va_D A (wX h r1 f1 s1 cI (rk_in R cn q k) (rk_fl F cn k a) (rk_fl S cn k b) (cn + k) tl) := hD
        exact e_v hx hb hr hlocks hP hK hD hS dX0_putAt_83 (Nat.le_of_ble_eq_true rfl) (Nat.le_of_ble_eq_true rfl)
      · have hki : i < k := Nat.lt_of_not_le (fun z => h1 ((nI_leI (by omega) (by omega)).mpr z))
        refine lv_aload_n hx hb dX0_putAt_30 rfl (lv_at hl 1 rfl) ?_
        refine va_get (D := D) (ci := 0) (v := .int (nI cn)) (C := RX0) (T := TX0) (N := 4) hx hb hts hu hown hK hP 0 rfl rfl 3 (by decide) hF19 (fun _ h9 => h9) rfl dX0_putAt_31 ?_
        refine lv_iload hx hb dX0_putAt_34 (lv_at hl 0 rfl) ?_
        refine lv_iadd hx hb dX0_putAt_36 ?_
        refine q_top (nI (cn + i)) (nI_add _ _) ?_
        refine lv_istore (lv' := [(6, .int (nI (cn + i))), (5, .int (nI i)), (0, .ref h), (1, .int (nI q)), (2, .int (nI k)), (3, .int a), (4, .int b)]) hx hb dX0_putAt_37 hl (by decide) rfl (fun ls hl => ?_)
        refine lv_aload_n hx hb dX0_putAt_39 rfl (lv_at hl 2 rfl) ?_
        refine va_get (D := D) (ci := 0) (v := .ref r1) (C := RX0) (T := TX0) (N := 4) hx hb hts hu hown hK hP 0 rfl rfl 0 (by decide) hF9 (fun _ h9 => h9) rfl dX0_putAt_40 ?_
        refine lv_iload_n hx hb dX0_putAt_43 rfl (lv_at hl 3 rfl) ?_
        refine lv_iload hx hb dX0_putAt_44 (lv_at hl 1 rfl) ?_
        refine lv_iadd hx hb dX0_putAt_46 ?_
        refine q_top (nI (q + i)) (nI_add _ _) ?_
        refine lv_iload hx hb dX0_putAt_47 (lv_at hl 0 rfl) ?_
        refine q_iast hx hb hK hP hD hS 1 0 rfl rfl (q + i) (by omega) (Nat.le_refl _) rfl dX0_putAt_49 (fun H locs hP hD hS => ?_)
        have hP : va_P D vwD (wX h r1 f1 s1 cI (upd (rk_pu R cn q k i) (q + i) (nI (cn + i))) (rk_fl F cn i a) (rk_fl S cn i b) cn tl) H := hP
        have hD : va_D A (wX h r1 f1 s1 cI (upd (rk_pu R cn q k i) (q + i) (nI (cn + i))) (rk_fl F cn i a) (rk_fl S cn i b) cn tl) := hD
        rw [rk_pu_s] at hP hD
        refine lv_aload_n hx hb dX0_putAt_50 rfl (lv_at hl 2 rfl) ?_
        refine va_get (D := D) (ci := 0) (v := .ref f1) (C := RX0) (T := TX0) (N := 4) hx hb hts hu hown hK hP 0 rfl rfl 1 (by decide) hF13 (fun _ h9 => h9) rfl dX0_putAt_51 ?_
        refine lv_iload hx hb dX0_putAt_54 (lv_at hl 0 rfl) ?_
        refine lv_iload_n hx hb dX0_putAt_56 rfl (lv_at hl 5 rfl) ?_
        refine q_iast hx hb hK hP hD hS 2 0 rfl rfl (cn + i) (by omega) (Nat.le_refl _) rfl dX0_putAt_57 (fun H locs hP hD hS => ?_)
        have hP : va_P D vwD (wX h r1 f1 s1 cI (rk_pu R cn q k (i + 1)) (upd (rk_fl F cn i a) (cn + i) a) (rk_fl S cn i b) cn tl) H := hP
        have hD : va_D A (wX h r1 f1 s1 cI (rk_pu R cn q k (i + 1)) (upd (rk_fl F cn i a) (cn + i) a) (rk_fl S cn i b) cn tl) := hD
        rw [rk_fl_s] at hP hD
        refine lv_aload_n hx hb dX0_putAt_58 rfl (lv_at hl 2 rfl) ?_
        refine va_get (D := D) (ci := 0) (v := .ref s1) (C := RX0) (T := TX0) (N := 4) hx hb hts hu hown hK hP 0 rfl rfl 2 (by decide) hF16 (fun _ h9 => h9) rfl dX0_putAt_59 ?_
        refine lv_iload hx hb dX0_putAt_62 (lv_at hl 0 rfl) ?_
        refine lv_iload hx hb dX0_putAt_64 (lv_at hl 6 rfl) ?_
        refine q_iast hx hb hK hP hD hS 3 0 rfl rfl (cn + i) (by omega) (Nat.le_refl _) rfl dX0_putAt_66 (fun H locs hP hD hS => ?_)
        have hP : va_P D vwD (wX h r1 f1 s1 cI (rk_pu R cn q k (i + 1)) (rk_fl F cn (i + 1) a) (upd (rk_fl S cn i b) (cn + i) b) cn tl) H := hP
        have hD : va_D A (wX h r1 f1 s1 cI (rk_pu R cn q k (i + 1)) (rk_fl F cn (i + 1) a) (upd (rk_fl S cn i b) (cn + i) b) cn tl) := hD
        rw [rk_fl_s] at hP hD
        refine lv_iinc (k := 1) (v := nI (i + 1)) (lv' := [(5, .int (nI (i + 1))), (6, .int (nI (cn + i))), (0, .ref h), (1, .int (nI q)), (2, .int (nI k)), (3, .int a), (4, .int b)]) hx hb dX0_putAt_67 hl rfl (by rw [(by decide : Int32.ofInt 1 = 1)]; exact nI_1 _) (by decide) rfl (fun ls hl => ?_)
        refine lv_goto (tgt := 24) hx hb dX0_putAt_70 (by decide) ?_
        exact ih (i + 1) (by omega) (by omega) H locs hP hD hS ls (lv_sub hl [0, 2, 3, 4, 5, 6] rfl)
  have hP : va_P D vwD (wX h r1 f1 s1 cI (rk_pu R cn q k 0) (rk_fl F cn 0 a) (rk_fl S cn 0 b) cn tl) H := by rw [rk_fl_0, rk_fl_0]; exact hP
  have hD : va_D A (wX h r1 f1 s1 cI (rk_pu R cn q k 0) (rk_fl F cn 0 a) (rk_fl S cn 0 b) cn tl) := by rw [rk_fl_0, rk_fl_0]; exact hD
  exact loop (k + 1) 0 (by omega) (Nat.zero_le _) H locs hP hD hS ls hl
set_option maxHeartbeats 4000000 in
set_option maxRecDepth 100000 in
theorem k_en (l : Launch) (D : va_G) (ad : Nat → Nat) (cI cJ : ClassId) (tl : va_W) (h r1 f1 s1 : Nat) (R F S : Nat → Int32) (cn : Nat)  : uI l yX0_entries wsX0_entries ({ frames := 0, cells := 0, slots := 0, locals := 0 } : Room) D ad [(cI, .int), (cJ, .long)] [.ref h] (wX h r1 f1 s1 cI R F S cn tl) (wX h r1 f1 s1 cI R F S cn tl) (nI cn) 0 0 := by
  unfold uI
  refine st_M (Qc := qI D [(cI, .int), (cJ, .long)] (wX h r1 f1 s1 cI R F S cn tl) (nI cn)) (mc := 0) (ms := 0) (cc := cX0_entries) (maxL := 1) (ret := (some .int)) [.ref h] (by decide) rfl (Nat.le_of_ble_eq_true rfl) (fun p en s m below meth c A ls hx hb hr hlocks hml hts hown hA hS hP hK hD hX hl => ?_)
  have hown : s.vm.findClass RX0 = some m.cls := hown
  have hl : lv_has ls 1 [(0, .ref h)] := hl
  have hu : ∀ w ∈ u_ws RX0 TX0 4, w ∈ wsX0_entries := by decide +kernel
  have hF19 := hts (.fieldLink RX0 19 "RankRows" "count" "I") (by decide +kernel)
  refine lv_aload_n hx hb dX0_entries_0 rfl (lv_at hl 0 rfl) ?_
  refine va_get (D := D) (ci := 0) (v := .int (nI cn)) (C := RX0) (T := TX0) (N := 4) hx hb hts hu hown hK hP 0 rfl rfl 3 (by decide) hF19 (fun _ h9 => h9) rfl dX0_entries_1 ?_
  exact e_i hx hb hr hlocks hP hK hD hS dX0_entries_4 (Nat.le_of_ble_eq_true rfl) (Nat.le_of_ble_eq_true rfl)
end
section
/-! The class: its public methods -/
set_option maxHeartbeats 4000000 in
set_option maxRecDepth 100000 in
theorem m_behind (l : Launch) (D : va_G) (ad : Nat → Nat) (cI cJ : ClassId) (tl : va_W) (h r1 f1 s1 : Nat) (R F S : Nat → Int32) (cn : Nat) (ee n a b : Int32) (hl9 : l.stackTraces = false) (hR : rk_ok R cn) : uT l yX0_behind wsX0_behind ({ frames := 8, cells := 1, slots := 6, locals := 160 } : Room) D ad [(cI, .int), (cJ, .long)] [.ref h, .int ee, .int n, .int a, .int b] (wX h r1 f1 s1 cI R F S cn tl) (wX h r1 f1 s1 cI (rk_in R cn (rk_pb R ee cn) n.toNatClampNeg) (rk_fl F cn n.toNatClampNeg a) (rk_fl S cn n.toNatClampNeg b) (cn + n.toNatClampNeg) tl) (rk_kB ee n a b cn) (nI (cn + n.toNatClampNeg) - 1) := by
  unfold uT
  refine st_T (Qc := qT D [(cI, .int), (cJ, .long)] (wX h r1 f1 s1 cI (rk_in R cn (rk_pb R ee cn) n.toNatClampNeg) (rk_fl F cn n.toNatClampNeg a) (rk_fl S cn n.toNatClampNeg b) (cn + n.toNatClampNeg) tl) (rk_kB ee n a b cn) (nI (cn + n.toNatClampNeg) - 1)) (XC := xT D [(cI, .int), (cJ, .long)] (wX h r1 f1 s1 cI R F S cn tl) (rk_kB ee n a b cn)) (mc := 1) (ms := 6) (cc := cX0_behind) (maxL := 5) (ret := (some .int)) [.ref h, .int ee, .int n, .int a, .int b] (by decide) rfl (Nat.le_of_ble_eq_true rfl) (fun p en s m below meth c A ls hex hx hb hr hlocks hml hts hown hA hS hP hK hD hX hl => ?_)
  have hown : s.vm.findClass RX0 = some m.cls := hown
  have hl : lv_has ls 5 [(0, .ref h), (1, .int ee), (2, .int n), (3, .int a), (4, .int b)] := hl
  have hu : ∀ w ∈ u_ws RX0 TX0 4, w ∈ wsX0_behind := by decide +kernel
  have hF19 := hts (.fieldLink RX0 19 "RankRows" "count" "I") (by decide +kernel)
  have SC : CallFix p m c cX0_behind 5 s ([.ref h, .int ee, .int n, .int a, .int b] : List Value).toArray wsX0_behind RX0 := ⟨hx, hb, hml, hown, hts⟩
  have hc := hR.1
  have hthrow : rk_kB ee n a b cn = 1 → ∀ ls : Array Slot, lv_has ls 5 [(0, .ref h), (1, .int ee), (2, .int n), (3, .int a), (4, .int b)] → W p l en ({ frames := 8, cells := 1, slots := 6, locals := 160 } : Room) s m ([.ref h, .int ee, .int n, .int a, .int b] : List Value).toArray below meth c s.heap [] 0 0 (vx_MQ below (qT D [(cI, .int), (cJ, .long)] (wX h r1 f1 s1 cI (rk_in R cn (rk_pb R ee cn) n.toNatClampNeg) (rk_fl F cn n.toNatClampNeg a) (rk_fl S cn n.toNatClampNeg b) (cn + n.toNatClampNeg) tl) (rk_kB ee n a b cn) (nI (cn + n.toNatClampNeg) - 1) A) (xT D [(cI, .int), (cJ, .long)] (wX h r1 f1 s1 cI R F S cn tl) (rk_kB ee n a b cn) A) ([.ref h, .int ee, .int n, .int a, .int b] : List Value).toArray s 1 6 A) (F0 m 12 ls []) := by
    intro hk1 ls hl
    exact vx_throwS (own := RX0) (cls := "java/lang/IllegalArgumentException") (names := ["java/lang/RuntimeException", "java/lang/Exception"]) hx hb hl9 hown (by decide +kernel) (by decide +kernel) (hts (.classLink RX0 23 "java/lang/IllegalArgumentException") (by decide +kernel)) (hts (.initialized "java/lang/IllegalArgumentException") (by decide +kernel)) (hX.2.2.2.2 _ (List.mem_of_getElem? (i := 0) rfl)) (vx_hat (L := vx_atS RX0 27 "java/lang/IllegalArgumentException" ["java/lang/RuntimeException", "java/lang/Exception"]) (B := [.castable "java/lang/IllegalArgumentException" "java/lang/IllegalArgumentException", .declares ⟨"java/lang/RuntimeException", "<init>", "(Ljava/lang/String;)V"⟩, .declares ⟨"java/lang/Exception", "<init>", "(Ljava/lang/String;)V"⟩, .declares ⟨"java/lang/Throwable", "<init>", "(Ljava/lang/String;)V"⟩]) (fun w hw => hts w ((by decide +kernel : ∀ w ∈ (vx_atS RX0 27 "java/lang/IllegalArgumentException" ["java/lang/RuntimeException", "java/lang/Exception"]).filter goodWord, w ∈ wsX0_behind) w hw)) (by decide +kernel) (vx_c (va_Nw.use rfl (hX.2.1 _ (List.mem_of_getElem? (i := 0) rfl))) (vx_c (va_Nw.use rfl (hX.2.2.1 _ (List.mem_of_getElem? (i := 0) rfl))) (vx_c (va_Nw.use rfl (hX.2.2.1 _ (List.mem_of_getElem? (i := 1) rfl))) (vx_c (va_Nw.use rfl (hX.2.2.1 _ (List.mem_of_getElem? (i := 2) rfl))) (vx_n)))))) (by decide +kernel) hX.1.1 hX.1.2 hS (hl.1.trans hml.symm) dX0_behind_12 dX0_behind_15 dX0_behind_16 dX0_behind_18 dX0_behind_21 (fun x h => (hex x h).elim) (Nat.le_of_ble_eq_true rfl) (Nat.le_of_ble_eq_true rfl) (Nat.le_of_ble_eq_true rfl) (Nat.le_of_ble_eq_true rfl) hlocks (r_t (hk1) (by decide) (by decide +kernel) hP hK hD hS) hS.2.2 (Nat.le_of_ble_eq_true rfl) (Nat.le_of_ble_eq_true rfl)
  refine lv_iload_n hx hb dX0_behind_0 rfl (lv_at hl 2 rfl) ?_
  refine lv_iconst (v := 1) hx hb dX0_behind_1 (by decide) ?_
  refine lv_icmp_lt (tgt := 12) hx hb dX0_behind_2 (by decide) (fun h1 => ?_) (fun h1 => ?_)
  · exact hthrow (rk_kB_1 (fun q => q.1.1 h1)) ls hl
  · refine lv_iload_n hx hb dX0_behind_5 rfl (lv_at hl 2 rfl) ?_
    refine lv_sipush (v := 200) hx hb dX0_behind_6 (by decide) ?_
    refine lv_icmp_le (tgt := 22) hx hb dX0_behind_9 (by decide) (fun h2 => ?_) (fun h2 => ?_)
    · obtain ⟨hk1, hk2, hn⟩ := rk_num h1 h2
      refine lv_iload_n hx hb dX0_behind_22 rfl (lv_at hl 3 rfl) ?_
      refine lv_iload hx hb dX0_behind_23 (lv_at hl 4 rfl) ?_
      by_cases hw : rk_W a ∧ rk_W b
      · refine r_sv (rm := ({ frames := 0, cells := 0, slots := 0, locals := 0 } : Room)) (As := [.int a, .int b]) (rest := []) (k_cw_ok l D ad cI cJ (wX h r1 f1 s1 cI R F S cn tl) a b hw.1 hw.2) SC (va_cwS 2 hts gX0_behind_X0_checkWeights rfl rfl rfl (by decide +kernel) ⟨Nat.le_of_ble_eq_true rfl, Nat.le_of_ble_eq_true rfl⟩) hP hK hD hS hA hX rfl hl.1 rfl (Nat.le_of_ble_eq_true rfl) dX0_behind_25 ⟨Nat.le_of_ble_eq_true rfl, Nat.le_of_ble_eq_true rfl⟩ (fun H locs hP hD hS => ?_)
        have hP : va_P D vwD (wX h r1 f1 s1 cI R F S cn tl) H := hP
        have hD : va_D A (wX h r1 f1 s1 cI R F S cn tl) := hD
        refine lv_aload_n hx hb dX0_behind_28 rfl (lv_at hl 0 rfl) ?_
        refine lv_iload_n hx hb dX0_behind_29 rfl (lv_at hl 1 rfl) ?_
        by_cases he : ee = -1 ∨ rk_E ee cn
        · refine r_v (rm := ({ frames := 1, cells := 0, slots := 0, locals := 40 } : Room)) (As := [.int ee]) (rest := []) (k_co_ok l D ad cI cJ tl h r1 f1 s1 R F S cn ee he) SC (cwV 1 hts gX0_behind_X0_checkEntryOrNone rfl rfl rfl (by decide +kernel) ⟨Nat.le_of_ble_eq_true rfl, Nat.le_of_ble_eq_true rfl⟩) hP hK hD hS hA hX 0 rfl rfl rfl hl.1 rfl (Nat.le_of_ble_eq_true rfl) dX0_behind_30 ⟨Nat.le_of_ble_eq_true rfl, Nat.le_of_ble_eq_true rfl⟩ (fun H locs hP hD hS => ?_)
          have hP : va_P D vwD (wX h r1 f1 s1 cI R F S cn tl) H := hP
          have hD : va_D A (wX h r1 f1 s1 cI R F S cn tl) := hD
          refine lv_aload_n hx hb dX0_behind_33 rfl (lv_at hl 0 rfl) ?_
          refine lv_iload_n hx hb dX0_behind_34 rfl (lv_at hl 2 rfl) ?_
          by_cases hm : cn + n.toNatClampNeg ≤ 4000
          · refine r_v (rm := ({ frames := 0, cells := 0, slots := 0, locals := 0 } : Room)) (As := [.int n]) (rest := []) (k_cr_ok l D ad cI cJ tl h r1 f1 s1 R F S cn n n.toNatClampNeg hn hc hk2 hm) SC (cwV 1 hts gX0_behind_X0_checkRoomFor rfl rfl rfl (by decide +kernel) ⟨Nat.le_of_ble_eq_true rfl, Nat.le_of_ble_eq_true rfl⟩) hP hK hD hS hA hX 0 rfl rfl rfl hl.1 rfl (Nat.le_of_ble_eq_true rfl) dX0_behind_35 ⟨Nat.le_of_ble_eq_true rfl, Nat.le_of_ble_eq_true rfl⟩ (fun H locs hP hD hS => ?_)
            have hP : va_P D vwD (wX h r1 f1 s1 cI R F S cn tl) H := hP
            have hD : va_D A (wX h r1 f1 s1 cI R F S cn tl) := hD
            refine lv_aload_n hx hb dX0_behind_38 rfl (lv_at hl 0 rfl) ?_
            refine lv_aload_n hx hb dX0_behind_39 rfl (lv_at hl 0 rfl) ?_
            refine lv_iload_n hx hb dX0_behind_40 rfl (lv_at hl 1 rfl) ?_
            refine r_i (rm := ({ frames := 1, cells := 0, slots := 0, locals := 40 } : Room)) (As := [.int ee]) (rest := [.ref h]) (k_pb l D ad cI cJ tl h r1 f1 s1 R F S cn ee hc) SC (cwV 1 hts gX0_behind_X0_placeBehind rfl rfl rfl (by decide +kernel) ⟨Nat.le_of_ble_eq_true rfl, Nat.le_of_ble_eq_true rfl⟩) hP hK hD hS hA hX 0 rfl rfl rfl hl.1 rfl (Nat.le_of_ble_eq_true rfl) dX0_behind_41 ⟨Nat.le_of_ble_eq_true rfl, Nat.le_of_ble_eq_true rfl⟩ (fun H locs hP hD hS => ?_)
            have hP : va_P D vwD (wX h r1 f1 s1 cI R F S cn tl) H := hP
            have hD : va_D A (wX h r1 f1 s1 cI R F S cn tl) := hD
            refine lv_iload_n hx hb dX0_behind_44 rfl (lv_at hl 2 rfl) ?_
            refine lv_iload_n hx hb dX0_behind_45 rfl (lv_at hl 3 rfl) ?_
            refine lv_iload hx hb dX0_behind_46 (lv_at hl 4 rfl) ?_
            refine r_v (rm := ({ frames := 1, cells := 0, slots := 0, locals := 100 } : Room)) (As := [.int (nI (rk_pb R ee cn)), .int n, .int a, .int b]) (rest := []) (k_pa l D ad cI cJ tl h r1 f1 s1 R F S cn (nI (rk_pb R ee cn)) n a b (rk_pb R ee cn) n.toNatClampNeg rfl hn (rk_pb_le hR he) hm) SC (cwV 4 hts gX0_behind_X0_putAt rfl rfl rfl (by decide +kernel) ⟨Nat.le_of_ble_eq_true rfl, Nat.le_of_ble_eq_true rfl⟩) hP hK hD hS hA hX 0 rfl rfl rfl hl.1 rfl (Nat.le_of_ble_eq_true rfl) dX0_behind_48 ⟨Nat.le_of_ble_eq_true rfl, Nat.le_of_ble_eq_true rfl⟩ (fun H locs hP hD hS => ?_)
            have hP : va_P D vwD (wX h r1 f1 s1 cI (rk_in R cn (rk_pb R ee cn) n.toNatClampNeg) (rk_fl F cn n.toNatClampNeg a) (rk_fl S cn n.toNatClampNeg b) (cn + n.toNatClampNeg) tl) H := hP
            have hD : va_D A (wX h r1 f1 s1 cI (rk_in R cn (rk_pb R ee cn) n.toNatClampNeg) (rk_fl F cn n.toNatClampNeg a) (rk_fl S cn n.toNatClampNeg b) (cn + n.toNatClampNeg) tl) := hD
            refine lv_aload_n hx hb dX0_behind_51 rfl (lv_at hl 0 rfl) ?_
            refine va_get (D := D) (ci := 0) (v := .int (nI (cn + n.toNatClampNeg))) (C := RX0) (T := TX0) (N := 4) hx hb hts hu hown hK hP 0 rfl rfl 3 (by decide) hF19 (fun _ h9 => h9) rfl dX0_behind_52 ?_
            refine lv_iconst (v := 1) hx hb dX0_behind_55 (by decide) ?_
            refine lv_isub hx hb dX0_behind_56 ?_
            exact e_t hx hb hr hlocks (rk_kB_0 ⟨⟨h1, h2⟩, hw⟩ he hm) hP hK hD hS dX0_behind_57 (Nat.le_of_ble_eq_true rfl) (Nat.le_of_ble_eq_true rfl)
          · exact r_x (rm := ({ frames := 6, cells := 1, slots := 6, locals := 100 } : Room)) (As := [.int n]) (rest := []) (k_cr_bad l D ad cI cJ tl h r1 f1 s1 R F S cn n n.toNatClampNeg hl9 hn hc hk2 hm) SC (cwV 1 hts gX0_behind_X0_checkRoomFor rfl rfl rfl (by decide +kernel) ⟨Nat.le_of_ble_eq_true rfl, Nat.le_of_ble_eq_true rfl⟩) hP hK hD hS hA hX 0 rfl rfl rfl hl.1 rfl (Nat.le_of_ble_eq_true rfl) dX0_behind_35 ⟨Nat.le_of_ble_eq_true rfl, Nat.le_of_ble_eq_true rfl⟩ hex hlocks (rk_kB_3 ⟨⟨h1, h2⟩, hw⟩ he hm).symm (Nat.le_of_ble_eq_true rfl) (Nat.le_of_ble_eq_true rfl)
        · exact r_x (rm := ({ frames := 7, cells := 1, slots := 6, locals := 130 } : Room)) (As := [.int ee]) (rest := []) (k_co_bad l D ad cI cJ tl h r1 f1 s1 R F S cn ee hl9 he) SC (cwV 1 hts gX0_behind_X0_checkEntryOrNone rfl rfl rfl (by decide +kernel) ⟨Nat.le_of_ble_eq_true rfl, Nat.le_of_ble_eq_true rfl⟩) hP hK hD hS hA hX 0 rfl rfl rfl hl.1 rfl (Nat.le_of_ble_eq_true rfl) dX0_behind_30 ⟨Nat.le_of_ble_eq_true rfl, Nat.le_of_ble_eq_true rfl⟩ hex hlocks (rk_kB_2 ⟨⟨h1, h2⟩, hw⟩ he).symm (Nat.le_of_ble_eq_true rfl) (Nat.le_of_ble_eq_true rfl)
      · exact r_sx (rm := ({ frames := 6, cells := 1, slots := 6, locals := 100 } : Room)) (As := [.int a, .int b]) (rest := []) (k_cw_bad l D ad cI cJ (wX h r1 f1 s1 cI R F S cn tl) a b hl9 hw) SC (va_cwS 2 hts gX0_behind_X0_checkWeights rfl rfl rfl (by decide +kernel) ⟨Nat.le_of_ble_eq_true rfl, Nat.le_of_ble_eq_true rfl⟩) hP hK hD hS hA hX rfl hl.1 rfl (Nat.le_of_ble_eq_true rfl) dX0_behind_25 ⟨Nat.le_of_ble_eq_true rfl, Nat.le_of_ble_eq_true rfl⟩ hex hlocks (rk_kB_1 (fun q => hw q.2)).symm (Nat.le_of_ble_eq_true rfl) (Nat.le_of_ble_eq_true rfl)
    · exact hthrow (rk_kB_1 (fun q => h2 q.1.2)) ls hl
set_option maxHeartbeats 4000000 in
set_option maxRecDepth 100000 in
theorem m_before (l : Launch) (D : va_G) (ad : Nat → Nat) (cI cJ : ClassId) (tl : va_W) (h r1 f1 s1 : Nat) (R F S : Nat → Int32) (cn : Nat) (ee a b : Int32) (hl9 : l.stackTraces = false) (hR : rk_ok R cn) : uT l yX0_before wsX0_before ({ frames := 8, cells := 1, slots := 6, locals := 160 } : Room) D ad [(cI, .int), (cJ, .long)] [.ref h, .int ee, .int a, .int b] (wX h r1 f1 s1 cI R F S cn tl) (wX h r1 f1 s1 cI (rk_in R cn (rk_pl R ee cn) 1) (rk_fl F cn 1 a) (rk_fl S cn 1 b) (cn + 1) tl) (rk_kF ee a b cn) (nI (cn + 1) - 1) := by
  unfold uT
  refine st_T (Qc := qT D [(cI, .int), (cJ, .long)] (wX h r1 f1 s1 cI (rk_in R cn (rk_pl R ee cn) 1) (rk_fl F cn 1 a) (rk_fl S cn 1 b) (cn + 1) tl) (rk_kF ee a b cn) (nI (cn + 1) - 1)) (XC := xT D [(cI, .int), (cJ, .long)] (wX h r1 f1 s1 cI R F S cn tl) (rk_kF ee a b cn)) (mc := 1) (ms := 6) (cc := cX0_before) (maxL := 4) (ret := (some .int)) [.ref h, .int ee, .int a, .int b] (by decide) rfl (Nat.le_of_ble_eq_true rfl) (fun p en s m below meth c A ls hex hx hb hr hlocks hml hts hown hA hS hP hK hD hX hl => ?_)
  have hown : s.vm.findClass RX0 = some m.cls := hown
  have hl : lv_has ls 4 [(0, .ref h), (1, .int ee), (2, .int a), (3, .int b)] := hl
  have hu : ∀ w ∈ u_ws RX0 TX0 4, w ∈ wsX0_before := by decide +kernel
  have hF19 := hts (.fieldLink RX0 19 "RankRows" "count" "I") (by decide +kernel)
  have SC : CallFix p m c cX0_before 4 s ([.ref h, .int ee, .int a, .int b] : List Value).toArray wsX0_before RX0 := ⟨hx, hb, hml, hown, hts⟩
  have hc := hR.1
  refine lv_iload_n hx hb dX0_before_0 rfl (lv_at hl 2 rfl) ?_
  refine lv_iload_n hx hb dX0_before_1 rfl (lv_at hl 3 rfl) ?_
  by_cases hw : rk_W a ∧ rk_W b
  · refine r_sv (rm := ({ frames := 0, cells := 0, slots := 0, locals := 0 } : Room)) (As := [.int a, .int b]) (rest := []) (k_cw_ok l D ad cI cJ (wX h r1 f1 s1 cI R F S cn tl) a b hw.1 hw.2) SC (va_cwS 2 hts gX0_before_X0_checkWeights rfl rfl rfl (by decide +kernel) ⟨Nat.le_of_ble_eq_true rfl, Nat.le_of_ble_eq_true rfl⟩) hP hK hD hS hA hX rfl hl.1 rfl (Nat.le_of_ble_eq_true rfl) dX0_before_2 ⟨Nat.le_of_ble_eq_true rfl, Nat.le_of_ble_eq_true rfl⟩ (fun H locs hP hD hS => ?_)
    have hP : va_P D vwD (wX h r1 f1 s1 cI R F S cn tl) H := hP
    have hD : va_D A (wX h r1 f1 s1 cI R F S cn tl) := hD
    refine lv_aload_n hx hb dX0_before_5 rfl (lv_at hl 0 rfl) ?_
    refine lv_iload_n hx hb dX0_before_6 rfl (lv_at hl 1 rfl) ?_
    by_cases he : rk_E ee cn
    · refine r_v (rm := ({ frames := 0, cells := 0, slots := 0, locals := 0 } : Room)) (As := [.int ee]) (rest := []) (k_ce_ok l D ad cI cJ tl h r1 f1 s1 R F S cn ee he) SC (cwV 1 hts gX0_before_X0_checkEntry rfl rfl rfl (by decide +kernel) ⟨Nat.le_of_ble_eq_true rfl, Nat.le_of_ble_eq_true rfl⟩) hP hK hD hS hA hX 0 rfl rfl rfl hl.1 rfl (Nat.le_of_ble_eq_true rfl) dX0_before_7 ⟨Nat.le_of_ble_eq_true rfl, Nat.le_of_ble_eq_true rfl⟩ (fun H locs hP hD hS => ?_)
      have hP : va_P D vwD (wX h r1 f1 s1 cI R F S cn tl) H := hP
      have hD : va_D A (wX h r1 f1 s1 cI R F S cn tl) := hD
      refine lv_aload_n hx hb dX0_before_10 rfl (lv_at hl 0 rfl) ?_
      refine lv_iconst (v := 1) hx hb dX0_before_11 (by decide) ?_
      by_cases hm : cn + 1 ≤ 4000
      · refine r_v (rm := ({ frames := 0, cells := 0, slots := 0, locals := 0 } : Room)) (As := [.int 1]) (rest := []) (k_cr_ok l D ad cI cJ tl h r1 f1 s1 R F S cn 1 1 rk_1 hc (by decide) hm) SC (cwV 1 hts gX0_before_X0_checkRoomFor rfl rfl rfl (by decide +kernel) ⟨Nat.le_of_ble_eq_true rfl, Nat.le_of_ble_eq_true rfl⟩) hP hK hD hS hA hX 0 rfl rfl rfl hl.1 rfl (Nat.le_of_ble_eq_true rfl) dX0_before_12 ⟨Nat.le_of_ble_eq_true rfl, Nat.le_of_ble_eq_true rfl⟩ (fun H locs hP hD hS => ?_)
        have hP : va_P D vwD (wX h r1 f1 s1 cI R F S cn tl) H := hP
        have hD : va_D A (wX h r1 f1 s1 cI R F S cn tl) := hD
        refine lv_aload_n hx hb dX0_before_15 rfl (lv_at hl 0 rfl) ?_
        refine lv_aload_n hx hb dX0_before_16 rfl (lv_at hl 0 rfl) ?_
        refine lv_iload_n hx hb dX0_before_17 rfl (lv_at hl 1 rfl) ?_
        refine r_i (rm := ({ frames := 0, cells := 0, slots := 0, locals := 0 } : Room)) (As := [.int ee]) (rest := [.ref h]) (k_po l D ad cI cJ tl h r1 f1 s1 R F S cn ee hc) SC (cwV 1 hts gX0_before_X0_placeOf rfl rfl rfl (by decide +kernel) ⟨Nat.le_of_ble_eq_true rfl, Nat.le_of_ble_eq_true rfl⟩) hP hK hD hS hA hX 0 rfl rfl rfl hl.1 rfl (Nat.le_of_ble_eq_true rfl) dX0_before_18 ⟨Nat.le_of_ble_eq_true rfl, Nat.le_of_ble_eq_true rfl⟩ (fun H locs hP hD hS => ?_)
        have hP : va_P D vwD (wX h r1 f1 s1 cI R F S cn tl) H := hP
        have hD : va_D A (wX h r1 f1 s1 cI R F S cn tl) := hD
        refine lv_iconst (v := 1) hx hb dX0_before_21 (by decide) ?_
        refine lv_iload_n hx hb dX0_before_22 rfl (lv_at hl 2 rfl) ?_
        refine lv_iload_n hx hb dX0_before_23 rfl (lv_at hl 3 rfl) ?_
        refine r_v (rm := ({ frames := 1, cells := 0, slots := 0, locals := 100 } : Room)) (As := [.int (nI (rk_pl R ee cn)), .int 1, .int a, .int b]) (rest := []) (k_pa l D ad cI cJ tl h r1 f1 s1 R F S cn (nI (rk_pl R ee cn)) 1 a b (rk_pl R ee cn) 1 rfl rk_1 (rk_pl_le R ee cn) hm) SC (cwV 4 hts gX0_before_X0_putAt rfl rfl rfl (by decide +kernel) ⟨Nat.le_of_ble_eq_true rfl, Nat.le_of_ble_eq_true rfl⟩) hP hK hD hS hA hX 0 rfl rfl rfl hl.1 rfl (Nat.le_of_ble_eq_true rfl) dX0_before_24 ⟨Nat.le_of_ble_eq_true rfl, Nat.le_of_ble_eq_true rfl⟩ (fun H locs hP hD hS => ?_)
        have hP : va_P D vwD (wX h r1 f1 s1 cI (rk_in R cn (rk_pl R ee cn) 1) (rk_fl F cn 1 a) (rk_fl S cn 1 b) (cn + 1) tl) H := hP
        have hD : va_D A (wX h r1 f1 s1 cI (rk_in R cn (rk_pl R ee cn) 1) (rk_fl F cn 1 a) (rk_fl S cn 1 b) (cn + 1) tl) := hD
        refine lv_aload_n hx hb dX0_before_27 rfl (lv_at hl 0 rfl) ?_
        refine va_get (D := D) (ci := 0) (v := .int (nI (cn + 1))) (C := RX0) (T := TX0) (N := 4) hx hb hts hu hown hK hP 0 rfl rfl 3 (by decide) hF19 (fun _ h9 => h9) rfl dX0_before_28 ?_
        refine lv_iconst (v := 1) hx hb dX0_before_31 (by decide) ?_
        refine lv_isub hx hb dX0_before_32 ?_
        exact e_t hx hb hr hlocks (rk_kF_0 hw he hm) hP hK hD hS dX0_before_33 (Nat.le_of_ble_eq_true rfl) (Nat.le_of_ble_eq_true rfl)
      · exact r_x (rm := ({ frames := 6, cells := 1, slots := 6, locals := 100 } : Room)) (As := [.int 1]) (rest := []) (k_cr_bad l D ad cI cJ tl h r1 f1 s1 R F S cn 1 1 hl9 rk_1 hc (by decide) hm) SC (cwV 1 hts gX0_before_X0_checkRoomFor rfl rfl rfl (by decide +kernel) ⟨Nat.le_of_ble_eq_true rfl, Nat.le_of_ble_eq_true rfl⟩) hP hK hD hS hA hX 0 rfl rfl rfl hl.1 rfl (Nat.le_of_ble_eq_true rfl) dX0_before_12 ⟨Nat.le_of_ble_eq_true rfl, Nat.le_of_ble_eq_true rfl⟩ hex hlocks (rk_kF_3 hw he hm).symm (Nat.le_of_ble_eq_true rfl) (Nat.le_of_ble_eq_true rfl)
    · exact r_x (rm := ({ frames := 6, cells := 1, slots := 6, locals := 100 } : Room)) (As := [.int ee]) (rest := []) (k_ce_bad l D ad cI cJ tl h r1 f1 s1 R F S cn ee hl9 he) SC (cwV 1 hts gX0_before_X0_checkEntry rfl rfl rfl (by decide +kernel) ⟨Nat.le_of_ble_eq_true rfl, Nat.le_of_ble_eq_true rfl⟩) hP hK hD hS hA hX 0 rfl rfl rfl hl.1 rfl (Nat.le_of_ble_eq_true rfl) dX0_before_7 ⟨Nat.le_of_ble_eq_true rfl, Nat.le_of_ble_eq_true rfl⟩ hex hlocks (rk_kF_2 hw he).symm (Nat.le_of_ble_eq_true rfl) (Nat.le_of_ble_eq_true rfl)
  · exact r_sx (rm := ({ frames := 6, cells := 1, slots := 6, locals := 100 } : Room)) (As := [.int a, .int b]) (rest := []) (k_cw_bad l D ad cI cJ (wX h r1 f1 s1 cI R F S cn tl) a b hl9 hw) SC (va_cwS 2 hts gX0_before_X0_checkWeights rfl rfl rfl (by decide +kernel) ⟨Nat.le_of_ble_eq_true rfl, Nat.le_of_ble_eq_true rfl⟩) hP hK hD hS hA hX rfl hl.1 rfl (Nat.le_of_ble_eq_true rfl) dX0_before_2 ⟨Nat.le_of_ble_eq_true rfl, Nat.le_of_ble_eq_true rfl⟩ hex hlocks (rk_kF_1 hw).symm (Nat.le_of_ble_eq_true rfl) (Nat.le_of_ble_eq_true rfl)
set_option maxHeartbeats 4000000 in
set_option maxRecDepth 100000 in
theorem m_weigh (l : Launch) (D : va_G) (ad : Nat → Nat) (cI cJ : ClassId) (tl : va_W) (h r1 f1 s1 : Nat) (R F S : Nat → Int32) (cn : Nat) (ee a b : Int32) (hl9 : l.stackTraces = false) (hR : rk_ok R cn) : uT l yX0_weigh wsX0_weigh ({ frames := 8, cells := 1, slots := 6, locals := 160 } : Room) D ad [(cI, .int), (cJ, .long)] [.ref h, .int ee, .int a, .int b] (wX h r1 f1 s1 cI R F S cn tl) (wX h r1 f1 s1 cI R (upd F ee.toNatClampNeg a) (upd S ee.toNatClampNeg b) cn tl) (rk_kW ee a b cn) (F ee.toNatClampNeg) := by
  unfold uT
  refine st_T (Qc := qT D [(cI, .int), (cJ, .long)] (wX h r1 f1 s1 cI R (upd F ee.toNatClampNeg a) (upd S ee.toNatClampNeg b) cn tl) (rk_kW ee a b cn) (F ee.toNatClampNeg)) (XC := xT D [(cI, .int), (cJ, .long)] (wX h r1 f1 s1 cI R F S cn tl) (rk_kW ee a b cn)) (mc := 1) (ms := 6) (cc := cX0_weigh) (maxL := 5) (ret := (some .int)) [.ref h, .int ee, .int a, .int b] (by decide) rfl (Nat.le_of_ble_eq_true rfl) (fun p en s m below meth c A ls hex hx hb hr hlocks hml hts hown hA hS hP hK hD hX hl => ?_)
  have hown : s.vm.findClass RX0 = some m.cls := hown
  have hl : lv_has ls 5 [(0, .ref h), (1, .int ee), (2, .int a), (3, .int b)] := hl
  have hu : ∀ w ∈ u_ws RX0 TX0 4, w ∈ wsX0_weigh := by decide +kernel
  have hF13 := hts (.fieldLink RX0 13 "RankRows" "firsts" "[I") (by decide +kernel)
  have hF16 := hts (.fieldLink RX0 16 "RankRows" "seconds" "[I") (by decide +kernel)
  have SC : CallFix p m c cX0_weigh 5 s ([.ref h, .int ee, .int a, .int b] : List Value).toArray wsX0_weigh RX0 := ⟨hx, hb, hml, hown, hts⟩
  have hc := hR.1
  refine lv_iload_n hx hb dX0_weigh_0 rfl (lv_at hl 2 rfl) ?_
  refine lv_iload_n hx hb dX0_weigh_1 rfl (lv_at hl 3 rfl) ?_
  by_cases hw : rk_W a ∧ rk_W b
  · refine r_sv (rm := ({ frames := 0, cells := 0, slots := 0, locals := 0 } : Room)) (As := [.int a, .int b]) (rest := []) (k_cw_ok l D ad cI cJ (wX h r1 f1 s1 cI R F S cn tl) a b hw.1 hw.2) SC (va_cwS 2 hts gX0_weigh_X0_checkWeights rfl rfl rfl (by decide +kernel) ⟨Nat.le_of_ble_eq_true rfl, Nat.le_of_ble_eq_true rfl⟩) hP hK hD hS hA hX rfl hl.1 rfl (Nat.le_of_ble_eq_true rfl) dX0_weigh_2 ⟨Nat.le_of_ble_eq_true rfl, Nat.le_of_ble_eq_true rfl⟩ (fun H locs hP hD hS => ?_)
    have hP : va_P D vwD (wX h r1 f1 s1 cI R F S cn tl) H := hP
    have hD : va_D A (wX h r1 f1 s1 cI R F S cn tl) := hD
    refine lv_aload_n hx hb dX0_weigh_5 rfl (lv_at hl 0 rfl) ?_
    refine lv_iload_n hx hb dX0_weigh_6 rfl (lv_at hl 1 rfl) ?_
    by_cases he : rk_E ee cn
    · refine r_v (rm := ({ frames := 0, cells := 0, slots := 0, locals := 0 } : Room)) (As := [.int ee]) (rest := []) (k_ce_ok l D ad cI cJ tl h r1 f1 s1 R F S cn ee he) SC (cwV 1 hts gX0_weigh_X0_checkEntry rfl rfl rfl (by decide +kernel) ⟨Nat.le_of_ble_eq_true rfl, Nat.le_of_ble_eq_true rfl⟩) hP hK hD hS hA hX 0 rfl rfl rfl hl.1 rfl (Nat.le_of_ble_eq_true rfl) dX0_weigh_7 ⟨Nat.le_of_ble_eq_true rfl, Nat.le_of_ble_eq_true rfl⟩ (fun H locs hP hD hS => ?_)
      have hP : va_P D vwD (wX h r1 f1 s1 cI R F S cn tl) H := hP
      have hD : va_D A (wX h r1 f1 s1 cI R F S cn tl) := hD
      obtain ⟨hj, hje⟩ := rk_entc hc he
      refine lv_aload_n hx hb dX0_weigh_10 rfl (lv_at hl 0 rfl) ?_
      refine va_get (D := D) (ci := 0) (v := .ref f1) (C := RX0) (T := TX0) (N := 4) hx hb hts hu hown hK hP 0 rfl rfl 1 (by decide) hF13 (fun _ h9 => h9) rfl dX0_weigh_11 ?_
      refine lv_iload_n hx hb dX0_weigh_14 rfl (lv_at hl 1 rfl) ?_
      refine q_iald hx hb hK hP 2 0 rfl rfl ee.toNatClampNeg (by omega) (Nat.le_refl _) hje dX0_weigh_15 ?_
      refine lv_istore (lv' := [(4, .int (F ee.toNatClampNeg)), (0, .ref h), (1, .int ee), (2, .int a), (3, .int b)]) hx hb dX0_weigh_16 hl (by decide) rfl (fun ls hl => ?_)
      refine lv_aload_n hx hb dX0_weigh_18 rfl (lv_at hl 1 rfl) ?_
      refine va_get (D := D) (ci := 0) (v := .ref f1) (C := RX0) (T := TX0) (N := 4) hx hb hts hu hown hK hP 0 rfl rfl 1 (by decide) hF13 (fun _ h9 => h9) rfl dX0_weigh_19 ?_
      refine lv_iload_n hx hb dX0_weigh_22 rfl (lv_at hl 2 rfl) ?_
      refine lv_iload_n hx hb dX0_weigh_23 rfl (lv_at hl 3 rfl) ?_
      refine q_iast hx hb hK hP hD hS 2 0 rfl rfl ee.toNatClampNeg (by omega) (Nat.le_refl _) hje dX0_weigh_24 (fun H locs hP hD hS => ?_)
      have hP : va_P D vwD (wX h r1 f1 s1 cI R (upd F ee.toNatClampNeg a) S cn tl) H := hP
      have hD : va_D A (wX h r1 f1 s1 cI R (upd F ee.toNatClampNeg a) S cn tl) := hD
      refine lv_aload_n hx hb dX0_weigh_25 rfl (lv_at hl 1 rfl) ?_
      refine va_get (D := D) (ci := 0) (v := .ref s1) (C := RX0) (T := TX0) (N := 4) hx hb hts hu hown hK hP 0 rfl rfl 2 (by decide) hF16 (fun _ h9 => h9) rfl dX0_weigh_26 ?_
      refine lv_iload_n hx hb dX0_weigh_29 rfl (lv_at hl 2 rfl) ?_
      refine lv_iload_n hx hb dX0_weigh_30 rfl (lv_at hl 4 rfl) ?_
      refine q_iast hx hb hK hP hD hS 3 0 rfl rfl ee.toNatClampNeg (by omega) (Nat.le_refl _) hje dX0_weigh_31 (fun H locs hP hD hS => ?_)
      have hP : va_P D vwD (wX h r1 f1 s1 cI R (upd F ee.toNatClampNeg a) (upd S ee.toNatClampNeg b) cn tl) H := hP
      have hD : va_D A (wX h r1 f1 s1 cI R (upd F ee.toNatClampNeg a) (upd S ee.toNatClampNeg b) cn tl) := hD
      refine lv_iload hx hb dX0_weigh_32 (lv_at hl 0 rfl) ?_
      exact e_t hx hb hr hlocks (rk_kW_0 hw he) hP hK hD hS dX0_weigh_34 (Nat.le_of_ble_eq_true rfl) (Nat.le_of_ble_eq_true rfl)
    · exact r_x (rm := ({ frames := 6, cells := 1, slots := 6, locals := 100 } : Room)) (As := [.int ee]) (rest := []) (k_ce_bad l D ad cI cJ tl h r1 f1 s1 R F S cn ee hl9 he) SC (cwV 1 hts gX0_weigh_X0_checkEntry rfl rfl rfl (by decide +kernel) ⟨Nat.le_of_ble_eq_true rfl, Nat.le_of_ble_eq_true rfl⟩) hP hK hD hS hA hX 0 rfl rfl rfl hl.1 rfl (Nat.le_of_ble_eq_true rfl) dX0_weigh_7 ⟨Nat.le_of_ble_eq_true rfl, Nat.le_of_ble_eq_true rfl⟩ hex hlocks (rk_kW_2 hw he).symm (Nat.le_of_ble_eq_true rfl) (Nat.le_of_ble_eq_true rfl)
  · exact r_sx (rm := ({ frames := 6, cells := 1, slots := 6, locals := 100 } : Room)) (As := [.int a, .int b]) (rest := []) (k_cw_bad l D ad cI cJ (wX h r1 f1 s1 cI R F S cn tl) a b hl9 hw) SC (va_cwS 2 hts gX0_weigh_X0_checkWeights rfl rfl rfl (by decide +kernel) ⟨Nat.le_of_ble_eq_true rfl, Nat.le_of_ble_eq_true rfl⟩) hP hK hD hS hA hX rfl hl.1 rfl (Nat.le_of_ble_eq_true rfl) dX0_weigh_2 ⟨Nat.le_of_ble_eq_true rfl, Nat.le_of_ble_eq_true rfl⟩ hex hlocks (rk_kW_1 hw).symm (Nat.le_of_ble_eq_true rfl) (Nat.le_of_ble_eq_true rfl)
set_option maxHeartbeats 4000000 in
set_option maxRecDepth 100000 in
theorem m_find (l : Launch) (D : va_G) (ad : Nat → Nat) (cI cJ : ClassId) (tl : va_W) (h r1 f1 s1 : Nat) (R F S : Nat → Int32) (cn : Nat) (q : Int32) (hl9 : l.stackTraces = false) (hR : rk_ok R cn) : uT l yX0_find wsX0_find ({ frames := 8, cells := 1, slots := 6, locals := 160 } : Room) D ad [(cI, .int), (cJ, .long)] [.ref h, .int q] (wX h r1 f1 s1 cI R F S cn tl) (wX h r1 f1 s1 cI R F S cn tl) (rk_kD R F q cn) (R (rk_fd R F q cn)) := by
  unfold uT
  refine st_T (Qc := qT D [(cI, .int), (cJ, .long)] (wX h r1 f1 s1 cI R F S cn tl) (rk_kD R F q cn) (R (rk_fd R F q cn))) (XC := xT D [(cI, .int), (cJ, .long)] (wX h r1 f1 s1 cI R F S cn tl) (rk_kD R F q cn)) (mc := 1) (ms := 6) (cc := cX0_find) (maxL := 4) (ret := (some .int)) [.ref h, .int q] (by decide) rfl (Nat.le_of_ble_eq_true rfl) (fun p en s m below meth c A ls hex hx hb hr hlocks hml hts hown hA hS hP hK hD hX hl => ?_)
  have hown : s.vm.findClass RX0 = some m.cls := hown
  have hl : lv_has ls 4 [(0, .ref h), (1, .int q)] := hl
  have hu : ∀ w ∈ u_ws RX0 TX0 4, w ∈ wsX0_find := by decide +kernel
  have hF9 := hts (.fieldLink RX0 9 "RankRows" "row" "[I") (by decide +kernel)
  have hF13 := hts (.fieldLink RX0 13 "RankRows" "firsts" "[I") (by decide +kernel)
  have hF19 := hts (.fieldLink RX0 19 "RankRows" "count" "I") (by decide +kernel)
  have SC : CallFix p m c cX0_find 4 s ([.ref h, .int q] : List Value).toArray wsX0_find RX0 := ⟨hx, hb, hml, hown, hts⟩
  have hc := hR.1
  refine lv_iload_n hx hb dX0_find_0 rfl (lv_at hl 1 rfl) ?_
  refine lv_if_ge (tgt := 14) hx hb dX0_find_1 (by decide) (fun h1 => ?_) (fun h1 => ?_)
  · refine lv_iconst (v := 0) hx hb dX0_find_14 (by decide) ?_
    refine lv_istore_n (lv' := [(2, .int 0), (0, .ref h), (1, .int q)]) hx hb dX0_find_15 rfl hl (by decide) rfl (fun ls hl => ?_)
    refine lv_iconst (v := 0) hx hb dX0_find_16 (by decide) ?_
    refine lv_istore_n (lv' := [(3, .int 0), (2, .int 0), (0, .ref h), (1, .int q)]) hx hb dX0_find_17 rfl hl (by decide) rfl (fun ls hl => ?_)
    have loop : ∀ (d k : Nat), cn - k < d → k ≤ cn → (∀ j, j < k → ¬ q < rk_sm R F (j + 1)) → ∀ ls : Array Slot, lv_has ls 4 [(3, .int (nI k)), (2, .int (rk_sm R F k)), (0, .ref h), (1, .int q)] → W p l en ({ frames := 8, cells := 1, slots := 6, locals := 160 } : Room) s m ([.ref h, .int q] : List Value).toArray below meth c s.heap [] 0 0 (vx_MQ below (qT D [(cI, .int), (cJ, .long)] (wX h r1 f1 s1 cI R F S cn tl) (rk_kD R F q cn) (R (rk_fd R F q cn)) A) (xT D [(cI, .int), (cJ, .long)] (wX h r1 f1 s1 cI R F S cn tl) (rk_kD R F q cn) A) ([.ref h, .int q] : List Value).toArray s 1 6 A) (F0 m 18 ls []) := by
      intro d
      induction d with
      | zero => intro k hd; exact absurd hd (Nat.not_lt_zero _)
      | succ d ih =>
        intro k hd hk hno ls hl
        refine lv_iload_n hx hb dX0_find_18 rfl (lv_at hl 0 rfl) ?_
        refine lv_aload_n hx hb dX0_find_19 rfl (lv_at hl 2 rfl) ?_
        refine va_get (D := D) (ci := 0) (v := .int (nI cn)) (C := RX0) (T := TX0) (N := 4) hx hb hts hu hown hK hP 0 rfl rfl 3 (by decide) hF19 (fun _ h9 => h9) rfl dX0_find_20 ?_
        refine lv_icmp_ge (tgt := 58) hx hb dX0_find_23 (by decide) (fun h2 => ?_) (fun h2 => ?_)
        · have hkc : cn ≤ k := (nI_leI (by omega) (by omega)).mp h2
          have hfd : rk_fd R F q cn = k := rk_fd_eq hk hno (fun z => absurd z (by omega))
          exact nx_throw hx hb hl9 hown (hts (.classLink RX0 55 "java/util/NoSuchElementException") (by decide +kernel)) (hts (.initialized "java/util/NoSuchElementException") (by decide +kernel)) (hX.2.2.2.2 _ (List.mem_of_getElem? (i := 2) rfl)) (vx_hat (L := nx_at) (B := [.castable "java/util/NoSuchElementException" "java/util/NoSuchElementException", .declares ⟨"java/lang/RuntimeException", "<init>", "(Ljava/lang/String;)V"⟩, .declares ⟨"java/lang/Exception", "<init>", "(Ljava/lang/String;)V"⟩, .declares ⟨"java/lang/Throwable", "<init>", "(Ljava/lang/String;)V"⟩]) (fun w hw => hts w ((by decide +kernel : ∀ w ∈ (nx_at).filter goodWord, w ∈ wsX0_find) w hw)) (by decide +kernel) (vx_c (va_Nw.use rfl (hX.2.1 _ (List.mem_of_getElem? (i := 1) rfl))) (vx_c (va_Nw.use rfl (hX.2.2.1 _ (List.mem_of_getElem? (i := 0) rfl))) (vx_c (va_Nw.use rfl (hX.2.2.1 _ (List.mem_of_getElem? (i := 1) rfl))) (vx_c (va_Nw.use rfl (hX.2.2.1 _ (List.mem_of_getElem? (i := 2) rfl))) (vx_n)))))) (by decide +kernel) hX.1.1 hX.1.2 hS (hl.1.trans hml.symm) dX0_find_58 dX0_find_61 dX0_find_62 dX0_find_64 dX0_find_67 (fun x h => (hex x h).elim) (Nat.le_of_ble_eq_true rfl) (Nat.le_of_ble_eq_true rfl) (Nat.le_of_ble_eq_true rfl) (Nat.le_of_ble_eq_true rfl) hlocks (r_t (rk_kD_2 (fun z => by have := z.2; omega)) (by decide) (by decide +kernel) hP hK hD hS) hS.2.2 (Nat.le_of_ble_eq_true rfl) (Nat.le_of_ble_eq_true rfl)
        · have hkc : k < cn := Nat.lt_of_not_le (fun z => h2 ((nI_leI (by omega) (by omega)).mpr z))
          obtain ⟨j, hj, hRk⟩ := hR.2.1 k hkc
          refine lv_iload_n hx hb dX0_find_26 rfl (lv_at hl 1 rfl) ?_
          refine lv_aload_n hx hb dX0_find_27 rfl (lv_at hl 2 rfl) ?_
          refine va_get (D := D) (ci := 0) (v := .ref f1) (C := RX0) (T := TX0) (N := 4) hx hb hts hu hown hK hP 0 rfl rfl 1 (by decide) hF13 (fun _ h9 => h9) rfl dX0_find_28 ?_
          refine lv_aload_n hx hb dX0_find_31 rfl (lv_at hl 2 rfl) ?_
          refine va_get (D := D) (ci := 0) (v := .ref r1) (C := RX0) (T := TX0) (N := 4) hx hb hts hu hown hK hP 0 rfl rfl 0 (by decide) hF9 (fun _ h9 => h9) rfl dX0_find_32 ?_
          refine lv_iload_n hx hb dX0_find_35 rfl (lv_at hl 0 rfl) ?_
          refine q_iald hx hb hK hP 1 0 rfl rfl k (by omega) (Nat.le_refl _) rfl dX0_find_36 ?_
          refine q_iald hx hb hK hP 2 0 rfl rfl j (by omega) (Nat.le_refl _) hRk dX0_find_37 ?_
          refine lv_iadd hx hb dX0_find_38 ?_
          refine q_top (rk_sm R F (k + 1)) (by show _ = rk_sm R F k + F (R k).toNatClampNeg; rw [hRk, rk_cl j (by omega)]) ?_
          refine lv_istore_n (lv' := [(2, .int (rk_sm R F (k + 1))), (3, .int (nI k)), (0, .ref h), (1, .int q)]) hx hb dX0_find_39 rfl hl (by decide) rfl (fun ls hl => ?_)
          refine lv_iload_n hx hb dX0_find_40 rfl (lv_at hl 0 rfl) ?_
          refine lv_iload_n hx hb dX0_find_41 rfl (lv_at hl 3 rfl) ?_
          refine lv_icmp_le (tgt := 52) hx hb dX0_find_42 (by decide) (fun h3 => ?_) (fun h3 => ?_)
          · refine lv_iinc (k := 1) (v := nI (k + 1)) (lv' := [(3, .int (nI (k + 1))), (2, .int (rk_sm R F (k + 1))), (0, .ref h), (1, .int q)]) hx hb dX0_find_52 hl rfl (by rw [(by decide : Int32.ofInt 1 = 1)]; exact nI_1 _) (by decide) rfl (fun ls hl => ?_)
            refine lv_goto (tgt := 18) hx hb dX0_find_55 (by decide) ?_
            exact ih (k + 1) (by omega) (by omega) (fun j hj => (Nat.lt_succ_iff_lt_or_eq.mp hj).elim (fun q => hno j q) (fun q => by rw [q]; exact Int32.not_lt.mpr h3)) ls hl
          · have hfd : rk_fd R F q cn = k := rk_fd_eq hk hno (fun _ => Int32.not_le.mp h3)
            refine lv_aload_n hx hb dX0_find_45 rfl (lv_at hl 2 rfl) ?_
            refine va_get (D := D) (ci := 0) (v := .ref r1) (C := RX0) (T := TX0) (N := 4) hx hb hts hu hown hK hP 0 rfl rfl 0 (by decide) hF9 (fun _ h9 => h9) rfl dX0_find_46 ?_
            refine lv_iload_n hx hb dX0_find_49 rfl (lv_at hl 1 rfl) ?_
            refine q_iald hx hb hK hP 1 0 rfl rfl k (by omega) (Nat.le_refl _) rfl dX0_find_50 ?_
            refine q_top (R (rk_fd R F q cn)) (by rw [hfd]) ?_
            exact e_t hx hb hr hlocks (rk_kD_0 ⟨rk_nn h1, by omega⟩) hP hK hD hS dX0_find_51 (Nat.le_of_ble_eq_true rfl) (Nat.le_of_ble_eq_true rfl)
    have hl : lv_has ls 4 [(3, .int (nI 0)), (2, .int (rk_sm R F 0)), (0, .ref h), (1, .int q)] := hl
    exact loop (cn + 1) 0 (by omega) (Nat.zero_le _) (fun j q => absurd q (Nat.not_lt_zero j)) ls hl
  · exact nx_throw hx hb hl9 hown (hts (.classLink RX0 55 "java/util/NoSuchElementException") (by decide +kernel)) (hts (.initialized "java/util/NoSuchElementException") (by decide +kernel)) (hX.2.2.2.2 _ (List.mem_of_getElem? (i := 1) rfl)) (vx_hat (L := nx_at) (B := [.castable "java/util/NoSuchElementException" "java/util/NoSuchElementException", .declares ⟨"java/lang/RuntimeException", "<init>", "(Ljava/lang/String;)V"⟩, .declares ⟨"java/lang/Exception", "<init>", "(Ljava/lang/String;)V"⟩, .declares ⟨"java/lang/Throwable", "<init>", "(Ljava/lang/String;)V"⟩]) (fun w hw => hts w ((by decide +kernel : ∀ w ∈ (nx_at).filter goodWord, w ∈ wsX0_find) w hw)) (by decide +kernel) (vx_c (va_Nw.use rfl (hX.2.1 _ (List.mem_of_getElem? (i := 1) rfl))) (vx_c (va_Nw.use rfl (hX.2.2.1 _ (List.mem_of_getElem? (i := 0) rfl))) (vx_c (va_Nw.use rfl (hX.2.2.1 _ (List.mem_of_getElem? (i := 1) rfl))) (vx_c (va_Nw.use rfl (hX.2.2.1 _ (List.mem_of_getElem? (i := 2) rfl))) (vx_n)))))) (by decide +kernel) hX.1.1 hX.1.2 hS (hl.1.trans hml.symm) dX0_find_4 dX0_find_7 dX0_find_8 dX0_find_10 dX0_find_13 (fun x h => (hex x h).elim) (Nat.le_of_ble_eq_true rfl) (Nat.le_of_ble_eq_true rfl) (Nat.le_of_ble_eq_true rfl) (Nat.le_of_ble_eq_true rfl) hlocks (r_t (rk_kD_2 (fun z => h1 (rk_le z.1))) (by decide) (by decide +kernel) hP hK hD hS) hS.2.2 (Nat.le_of_ble_eq_true rfl) (Nat.le_of_ble_eq_true rfl)
set_option maxHeartbeats 4000000 in
set_option maxRecDepth 100000 in
theorem m_sum (l : Launch) (D : va_G) (ad : Nat → Nat) (cI cJ : ClassId) (tl : va_W) (h r1 f1 s1 : Nat) (R F S : Nat → Int32) (cn : Nat) (ee z : Int32) (hl9 : l.stackTraces = false) (hR : rk_ok R cn) : uT l yX0_sum wsX0_sum ({ frames := 8, cells := 1, slots := 6, locals := 160 } : Room) D ad [(cI, .int), (cJ, .long)] [.ref h, .int ee, .int z] (wX h r1 f1 s1 cI R F S cn tl) (wX h r1 f1 s1 cI R F S cn tl) (rk_kS ee z cn) (rk_sm R (if z = 0 then F else S) (if ee = -1 then cn else rk_pl R ee cn)) := by
  unfold uT
  refine st_T (Qc := qT D [(cI, .int), (cJ, .long)] (wX h r1 f1 s1 cI R F S cn tl) (rk_kS ee z cn) (rk_sm R (if z = 0 then F else S) (if ee = -1 then cn else rk_pl R ee cn))) (XC := xT D [(cI, .int), (cJ, .long)] (wX h r1 f1 s1 cI R F S cn tl) (rk_kS ee z cn)) (mc := 1) (ms := 6) (cc := cX0_sum) (maxL := 4) (ret := (some .int)) [.ref h, .int ee, .int z] (by decide) rfl (Nat.le_of_ble_eq_true rfl) (fun p en s m below meth c A ls hex hx hb hr hlocks hml hts hown hA hS hP hK hD hX hl => ?_)
  have hown : s.vm.findClass RX0 = some m.cls := hown
  have hl : lv_has ls 4 [(0, .ref h), (1, .int ee), (2, .int z)] := hl
  have hu : ∀ w ∈ u_ws RX0 TX0 4, w ∈ wsX0_sum := by decide +kernel
  have hF13 := hts (.fieldLink RX0 13 "RankRows" "firsts" "[I") (by decide +kernel)
  have hF16 := hts (.fieldLink RX0 16 "RankRows" "seconds" "[I") (by decide +kernel)
  have hF19 := hts (.fieldLink RX0 19 "RankRows" "count" "I") (by decide +kernel)
  have SC : CallFix p m c cX0_sum 4 s ([.ref h, .int ee, .int z] : List Value).toArray wsX0_sum RX0 := ⟨hx, hb, hml, hown, hts⟩
  have hc := hR.1
  have hend : ∀ q : Nat, q ≤ cn → (if ee = -1 then cn else rk_pl R ee cn) = q → rk_kS ee z cn = 0 → ∀ (H : Heap) (locs : List Loc), va_P D vwD (wX h r1 f1 s1 cI R F S cn tl) H → va_D A (wX h r1 f1 s1 cI R F S cn tl) → va_S A s.heap H locs → ∀ ls : Array Slot, lv_has ls 4 [(0, .ref h), (1, .int ee), (2, .int z)] → W p l en ({ frames := 8, cells := 1, slots := 6, locals := 160 } : Room) s m ([.ref h, .int ee, .int z] : List Value).toArray below meth c H locs 0 0 (vx_MQ below (qT D [(cI, .int), (cJ, .long)] (wX h r1 f1 s1 cI R F S cn tl) (rk_kS ee z cn) (rk_sm R (if z = 0 then F else S) (if ee = -1 then cn else rk_pl R ee cn)) A) (xT D [(cI, .int), (cJ, .long)] (wX h r1 f1 s1 cI R F S cn tl) (rk_kS ee z cn) A) ([.ref h, .int ee, .int z] : List Value).toArray s 1 6 A) (F0 m 41 ls [.int (nI q)]) := by
    intro q hq hqe hk0 H locs hP hD hS ls hl
    refine lv_istore_n (lv' := [(3, .int (nI q)), (0, .ref h), (1, .int ee), (2, .int z)]) hx hb dX0_sum_41 rfl hl (by decide) rfl (fun ls hl => ?_)
    refine lv_aload_n hx hb dX0_sum_42 rfl (lv_at hl 1 rfl) ?_
    refine lv_iload_n hx hb dX0_sum_43 rfl (lv_at hl 0 rfl) ?_
    refine lv_iload_n hx hb dX0_sum_44 rfl (lv_at hl 3 rfl) ?_
    refine lv_if_ne (tgt := 55) hx hb dX0_sum_45 (by decide) (fun h1 => ?_) (fun h1 => ?_)
    · refine lv_aload_n hx hb dX0_sum_55 rfl (lv_at hl 1 rfl) ?_
      refine va_get (D := D) (ci := 0) (v := .ref s1) (C := RX0) (T := TX0) (N := 4) hx hb hts hu hown hK hP 0 rfl rfl 2 (by decide) hF16 (fun _ h9 => h9) rfl dX0_sum_56 ?_
      refine r_i (rm := ({ frames := 0, cells := 0, slots := 0, locals := 0 } : Room)) (As := [.int (nI q), .ref s1]) (rest := []) (k_ss l D ad cI cJ tl h r1 f1 s1 R F S cn q hR hq) SC (cwV 2 hts gX0_sum_X0_sumInFrontOf rfl rfl rfl (by decide +kernel) ⟨Nat.le_of_ble_eq_true rfl, Nat.le_of_ble_eq_true rfl⟩) hP hK hD hS hA hX 0 rfl rfl rfl hl.1 rfl (Nat.le_of_ble_eq_true rfl) dX0_sum_59 ⟨Nat.le_of_ble_eq_true rfl, Nat.le_of_ble_eq_true rfl⟩ (fun H locs hP hD hS => ?_)
      have hP : va_P D vwD (wX h r1 f1 s1 cI R F S cn tl) H := hP
      have hD : va_D A (wX h r1 f1 s1 cI R F S cn tl) := hD
      refine q_top (rk_sm R (if z = 0 then F else S) (if ee = -1 then cn else rk_pl R ee cn)) (by rw [if_neg h1, hqe]) ?_
      exact e_t hx hb hr hlocks (hk0) hP hK hD hS dX0_sum_62 (Nat.le_of_ble_eq_true rfl) (Nat.le_of_ble_eq_true rfl)
    · refine lv_aload_n hx hb dX0_sum_48 rfl (lv_at hl 1 rfl) ?_
      refine va_get (D := D) (ci := 0) (v := .ref f1) (C := RX0) (T := TX0) (N := 4) hx hb hts hu hown hK hP 0 rfl rfl 1 (by decide) hF13 (fun _ h9 => h9) rfl dX0_sum_49 ?_
      refine lv_goto (tgt := 59) hx hb dX0_sum_52 (by decide) ?_
      refine r_i (rm := ({ frames := 0, cells := 0, slots := 0, locals := 0 } : Room)) (As := [.int (nI q), .ref f1]) (rest := []) (k_sf l D ad cI cJ tl h r1 f1 s1 R F S cn q hR hq) SC (cwV 2 hts gX0_sum_X0_sumInFrontOf rfl rfl rfl (by decide +kernel) ⟨Nat.le_of_ble_eq_true rfl, Nat.le_of_ble_eq_true rfl⟩) hP hK hD hS hA hX 0 rfl rfl rfl hl.1 rfl (Nat.le_of_ble_eq_true rfl) dX0_sum_59 ⟨Nat.le_of_ble_eq_true rfl, Nat.le_of_ble_eq_true rfl⟩ (fun H locs hP hD hS => ?_)
      have hP : va_P D vwD (wX h r1 f1 s1 cI R F S cn tl) H := hP
      have hD : va_D A (wX h r1 f1 s1 cI R F S cn tl) := hD
      refine q_top (rk_sm R (if z = 0 then F else S) (if ee = -1 then cn else rk_pl R ee cn)) (by rw [if_pos h1, hqe]) ?_
      exact e_t hx hb hr hlocks (hk0) hP hK hD hS dX0_sum_62 (Nat.le_of_ble_eq_true rfl) (Nat.le_of_ble_eq_true rfl)
  have hgo : (z = 0 ∨ z = 1) → ∀ ls : Array Slot, lv_has ls 4 [(0, .ref h), (1, .int ee), (2, .int z)] → W p l en ({ frames := 8, cells := 1, slots := 6, locals := 160 } : Room) s m ([.ref h, .int ee, .int z] : List Value).toArray below meth c s.heap [] 0 0 (vx_MQ below (qT D [(cI, .int), (cJ, .long)] (wX h r1 f1 s1 cI R F S cn tl) (rk_kS ee z cn) (rk_sm R (if z = 0 then F else S) (if ee = -1 then cn else rk_pl R ee cn)) A) (xT D [(cI, .int), (cJ, .long)] (wX h r1 f1 s1 cI R F S cn tl) (rk_kS ee z cn) A) ([.ref h, .int ee, .int z] : List Value).toArray s 1 6 A) (F0 m 19 ls []) := by
    intro hz ls hl
    refine lv_aload_n hx hb dX0_sum_19 rfl (lv_at hl 0 rfl) ?_
    refine lv_iload_n hx hb dX0_sum_20 rfl (lv_at hl 1 rfl) ?_
    by_cases he : ee = -1 ∨ rk_E ee cn
    · refine r_v (rm := ({ frames := 1, cells := 0, slots := 0, locals := 40 } : Room)) (As := [.int ee]) (rest := []) (k_co_ok l D ad cI cJ tl h r1 f1 s1 R F S cn ee he) SC (cwV 1 hts gX0_sum_X0_checkEntryOrNone rfl rfl rfl (by decide +kernel) ⟨Nat.le_of_ble_eq_true rfl, Nat.le_of_ble_eq_true rfl⟩) hP hK hD hS hA hX 0 rfl rfl rfl hl.1 rfl (Nat.le_of_ble_eq_true rfl) dX0_sum_21 ⟨Nat.le_of_ble_eq_true rfl, Nat.le_of_ble_eq_true rfl⟩ (fun H locs hP hD hS => ?_)
      have hP : va_P D vwD (wX h r1 f1 s1 cI R F S cn tl) H := hP
      have hD : va_D A (wX h r1 f1 s1 cI R F S cn tl) := hD
      refine lv_iload_n hx hb dX0_sum_24 rfl (lv_at hl 1 rfl) ?_
      refine lv_iconst (v := (-1)) hx hb dX0_sum_25 (by decide) ?_
      refine lv_icmp_ne (tgt := 36) hx hb dX0_sum_26 (by decide) (fun h2 => ?_) (fun h2 => ?_)
      · refine lv_aload_n hx hb dX0_sum_36 rfl (lv_at hl 0 rfl) ?_
        refine lv_iload_n hx hb dX0_sum_37 rfl (lv_at hl 1 rfl) ?_
        refine r_i (rm := ({ frames := 0, cells := 0, slots := 0, locals := 0 } : Room)) (As := [.int ee]) (rest := []) (k_po l D ad cI cJ tl h r1 f1 s1 R F S cn ee hc) SC (cwV 1 hts gX0_sum_X0_placeOf rfl rfl rfl (by decide +kernel) ⟨Nat.le_of_ble_eq_true rfl, Nat.le_of_ble_eq_true rfl⟩) hP hK hD hS hA hX 0 rfl rfl rfl hl.1 rfl (Nat.le_of_ble_eq_true rfl) dX0_sum_38 ⟨Nat.le_of_ble_eq_true rfl, Nat.le_of_ble_eq_true rfl⟩ (fun H locs hP hD hS => ?_)
        have hP : va_P D vwD (wX h r1 f1 s1 cI R F S cn tl) H := hP
        have hD : va_D A (wX h r1 f1 s1 cI R F S cn tl) := hD
        exact hend (rk_pl R ee cn) (rk_pl_le R ee cn) (if_neg h2) (rk_kS_0 hz he) H locs hP hD hS ls hl
      · refine lv_aload_n hx hb dX0_sum_29 rfl (lv_at hl 0 rfl) ?_
        refine va_get (D := D) (ci := 0) (v := .int (nI cn)) (C := RX0) (T := TX0) (N := 4) hx hb hts hu hown hK hP 0 rfl rfl 3 (by decide) hF19 (fun _ h9 => h9) rfl dX0_sum_30 ?_
        refine lv_goto (tgt := 41) hx hb dX0_sum_33 (by decide) ?_
        exact hend cn (Nat.le_refl _) (if_pos h2) (rk_kS_0 hz he) H locs hP hD hS ls hl
    · exact r_x (rm := ({ frames := 7, cells := 1, slots := 6, locals := 130 } : Room)) (As := [.int ee]) (rest := []) (k_co_bad l D ad cI cJ tl h r1 f1 s1 R F S cn ee hl9 he) SC (cwV 1 hts gX0_sum_X0_checkEntryOrNone rfl rfl rfl (by decide +kernel) ⟨Nat.le_of_ble_eq_true rfl, Nat.le_of_ble_eq_true rfl⟩) hP hK hD hS hA hX 0 rfl rfl rfl hl.1 rfl (Nat.le_of_ble_eq_true rfl) dX0_sum_21 ⟨Nat.le_of_ble_eq_true rfl, Nat.le_of_ble_eq_true rfl⟩ hex hlocks (rk_kS_2 hz he).symm (Nat.le_of_ble_eq_true rfl) (Nat.le_of_ble_eq_true rfl)
  refine lv_iload_n hx hb dX0_sum_0 rfl (lv_at hl 2 rfl) ?_
  refine lv_if_eq (tgt := 19) hx hb dX0_sum_1 (by decide) (fun h1 => ?_) (fun h1 => ?_)
  · exact hgo (Or.inl h1) ls hl
  · refine lv_iload_n hx hb dX0_sum_4 rfl (lv_at hl 2 rfl) ?_
    refine lv_iconst (v := 1) hx hb dX0_sum_5 (by decide) ?_
    refine lv_icmp_eq (tgt := 19) hx hb dX0_sum_6 (by decide) (fun h2 => ?_) (fun h2 => ?_)
    · exact hgo (Or.inr h2) ls hl
    · exact vx_throwS (own := RX0) (cls := "java/lang/IllegalArgumentException") (names := ["java/lang/RuntimeException", "java/lang/Exception"]) hx hb hl9 hown (by decide +kernel) (by decide +kernel) (hts (.classLink RX0 23 "java/lang/IllegalArgumentException") (by decide +kernel)) (hts (.initialized "java/lang/IllegalArgumentException") (by decide +kernel)) (hX.2.2.2.2 _ (List.mem_of_getElem? (i := 3) rfl)) (vx_hat (L := vx_atS RX0 27 "java/lang/IllegalArgumentException" ["java/lang/RuntimeException", "java/lang/Exception"]) (B := [.castable "java/lang/IllegalArgumentException" "java/lang/IllegalArgumentException", .declares ⟨"java/lang/RuntimeException", "<init>", "(Ljava/lang/String;)V"⟩, .declares ⟨"java/lang/Exception", "<init>", "(Ljava/lang/String;)V"⟩, .declares ⟨"java/lang/Throwable", "<init>", "(Ljava/lang/String;)V"⟩]) (fun w hw => hts w ((by decide +kernel : ∀ w ∈ (vx_atS RX0 27 "java/lang/IllegalArgumentException" ["java/lang/RuntimeException", "java/lang/Exception"]).filter goodWord, w ∈ wsX0_sum) w hw)) (by decide +kernel) (vx_c (va_Nw.use rfl (hX.2.1 _ (List.mem_of_getElem? (i := 0) rfl))) (vx_c (va_Nw.use rfl (hX.2.2.1 _ (List.mem_of_getElem? (i := 0) rfl))) (vx_c (va_Nw.use rfl (hX.2.2.1 _ (List.mem_of_getElem? (i := 1) rfl))) (vx_c (va_Nw.use rfl (hX.2.2.1 _ (List.mem_of_getElem? (i := 2) rfl))) (vx_n)))))) (by decide +kernel) hX.1.1 hX.1.2 hS (hl.1.trans hml.symm) dX0_sum_9 dX0_sum_12 dX0_sum_13 dX0_sum_15 dX0_sum_18 (fun x h => (hex x h).elim) (Nat.le_of_ble_eq_true rfl) (Nat.le_of_ble_eq_true rfl) (Nat.le_of_ble_eq_true rfl) (Nat.le_of_ble_eq_true rfl) hlocks (r_t (rk_kS_1 (fun q => q.elim h1 h2)) (by decide) (by decide +kernel) hP hK hD hS) hS.2.2 (Nat.le_of_ble_eq_true rfl) (Nat.le_of_ble_eq_true rfl)
set_option maxHeartbeats 4000000 in
set_option maxRecDepth 100000 in
theorem m_next (l : Launch) (D : va_G) (ad : Nat → Nat) (cI cJ : ClassId) (tl : va_W) (h r1 f1 s1 : Nat) (R F S : Nat → Int32) (cn : Nat) (ee : Int32) (hl9 : l.stackTraces = false) (hR : rk_ok R cn) : uT l yX0_next wsX0_next ({ frames := 8, cells := 1, slots := 6, locals := 160 } : Room) D ad [(cI, .int), (cJ, .long)] [.ref h, .int ee] (wX h r1 f1 s1 cI R F S cn tl) (wX h r1 f1 s1 cI R F S cn tl) (rk_kN R ee cn) (R (rk_pb R ee cn)) := by
  unfold uT
  refine st_T (Qc := qT D [(cI, .int), (cJ, .long)] (wX h r1 f1 s1 cI R F S cn tl) (rk_kN R ee cn) (R (rk_pb R ee cn))) (XC := xT D [(cI, .int), (cJ, .long)] (wX h r1 f1 s1 cI R F S cn tl) (rk_kN R ee cn)) (mc := 1) (ms := 6) (cc := cX0_next) (maxL := 3) (ret := (some .int)) [.ref h, .int ee] (by decide) rfl (Nat.le_of_ble_eq_true rfl) (fun p en s m below meth c A ls hex hx hb hr hlocks hml hts hown hA hS hP hK hD hX hl => ?_)
  have hown : s.vm.findClass RX0 = some m.cls := hown
  have hl : lv_has ls 3 [(0, .ref h), (1, .int ee)] := hl
  have hu : ∀ w ∈ u_ws RX0 TX0 4, w ∈ wsX0_next := by decide +kernel
  have hF9 := hts (.fieldLink RX0 9 "RankRows" "row" "[I") (by decide +kernel)
  have hF19 := hts (.fieldLink RX0 19 "RankRows" "count" "I") (by decide +kernel)
  have SC : CallFix p m c cX0_next 3 s ([.ref h, .int ee] : List Value).toArray wsX0_next RX0 := ⟨hx, hb, hml, hown, hts⟩
  have hc := hR.1
  refine lv_aload_n hx hb dX0_next_0 rfl (lv_at hl 0 rfl) ?_
  refine lv_iload_n hx hb dX0_next_1 rfl (lv_at hl 1 rfl) ?_
  by_cases he : ee = -1 ∨ rk_E ee cn
  · have hpb := rk_pb_le hR he
    refine r_v (rm := ({ frames := 1, cells := 0, slots := 0, locals := 40 } : Room)) (As := [.int ee]) (rest := []) (k_co_ok l D ad cI cJ tl h r1 f1 s1 R F S cn ee he) SC (cwV 1 hts gX0_next_X0_checkEntryOrNone rfl rfl rfl (by decide +kernel) ⟨Nat.le_of_ble_eq_true rfl, Nat.le_of_ble_eq_true rfl⟩) hP hK hD hS hA hX 0 rfl rfl rfl hl.1 rfl (Nat.le_of_ble_eq_true rfl) dX0_next_2 ⟨Nat.le_of_ble_eq_true rfl, Nat.le_of_ble_eq_true rfl⟩ (fun H locs hP hD hS => ?_)
    have hP : va_P D vwD (wX h r1 f1 s1 cI R F S cn tl) H := hP
    have hD : va_D A (wX h r1 f1 s1 cI R F S cn tl) := hD
    refine lv_aload_n hx hb dX0_next_5 rfl (lv_at hl 0 rfl) ?_
    refine lv_iload_n hx hb dX0_next_6 rfl (lv_at hl 1 rfl) ?_
    refine r_i (rm := ({ frames := 1, cells := 0, slots := 0, locals := 40 } : Room)) (As := [.int ee]) (rest := []) (k_pb l D ad cI cJ tl h r1 f1 s1 R F S cn ee hc) SC (cwV 1 hts gX0_next_X0_placeBehind rfl rfl rfl (by decide +kernel) ⟨Nat.le_of_ble_eq_true rfl, Nat.le_of_ble_eq_true rfl⟩) hP hK hD hS hA hX 0 rfl rfl rfl hl.1 rfl (Nat.le_of_ble_eq_true rfl) dX0_next_7 ⟨Nat.le_of_ble_eq_true rfl, Nat.le_of_ble_eq_true rfl⟩ (fun H locs hP hD hS => ?_)
    have hP : va_P D vwD (wX h r1 f1 s1 cI R F S cn tl) H := hP
    have hD : va_D A (wX h r1 f1 s1 cI R F S cn tl) := hD
    refine lv_istore_n (lv' := [(2, .int (nI (rk_pb R ee cn))), (0, .ref h), (1, .int ee)]) hx hb dX0_next_10 rfl hl (by decide) rfl (fun ls hl => ?_)
    refine lv_iload_n hx hb dX0_next_11 rfl (lv_at hl 0 rfl) ?_
    refine lv_aload_n hx hb dX0_next_12 rfl (lv_at hl 1 rfl) ?_
    refine va_get (D := D) (ci := 0) (v := .int (nI cn)) (C := RX0) (T := TX0) (N := 4) hx hb hts hu hown hK hP 0 rfl rfl 3 (by decide) hF19 (fun _ h9 => h9) rfl dX0_next_13 ?_
    refine lv_icmp_lt (tgt := 29) hx hb dX0_next_16 (by decide) (fun h1 => ?_) (fun h1 => ?_)
    · have hlt : rk_pb R ee cn < cn := (nI_ltI (by omega) (by omega)).mp h1
      refine lv_aload_n hx hb dX0_next_29 rfl (lv_at hl 1 rfl) ?_
      refine va_get (D := D) (ci := 0) (v := .ref r1) (C := RX0) (T := TX0) (N := 4) hx hb hts hu hown hK hP 0 rfl rfl 0 (by decide) hF9 (fun _ h9 => h9) rfl dX0_next_30 ?_
      refine lv_iload_n hx hb dX0_next_33 rfl (lv_at hl 0 rfl) ?_
      refine q_iald hx hb hK hP 1 0 rfl rfl (rk_pb R ee cn) (by omega) (Nat.le_refl _) rfl dX0_next_34 ?_
      exact e_t hx hb hr hlocks (rk_kN_0 ⟨he, hlt⟩) hP hK hD hS dX0_next_35 (Nat.le_of_ble_eq_true rfl) (Nat.le_of_ble_eq_true rfl)
    · exact nx_throw hx hb hl9 hown (hts (.classLink RX0 55 "java/util/NoSuchElementException") (by decide +kernel)) (hts (.initialized "java/util/NoSuchElementException") (by decide +kernel)) (hX.2.2.2.2 _ (List.mem_of_getElem? (i := 4) rfl)) (vx_hat (L := nx_at) (B := [.castable "java/util/NoSuchElementException" "java/util/NoSuchElementException", .declares ⟨"java/lang/RuntimeException", "<init>", "(Ljava/lang/String;)V"⟩, .declares ⟨"java/lang/Exception", "<init>", "(Ljava/lang/String;)V"⟩, .declares ⟨"java/lang/Throwable", "<init>", "(Ljava/lang/String;)V"⟩]) (fun w hw => hts w ((by decide +kernel : ∀ w ∈ (nx_at).filter goodWord, w ∈ wsX0_next) w hw)) (by decide +kernel) (vx_c (va_Nw.use rfl (hX.2.1 _ (List.mem_of_getElem? (i := 1) rfl))) (vx_c (va_Nw.use rfl (hX.2.2.1 _ (List.mem_of_getElem? (i := 0) rfl))) (vx_c (va_Nw.use rfl (hX.2.2.1 _ (List.mem_of_getElem? (i := 1) rfl))) (vx_c (va_Nw.use rfl (hX.2.2.1 _ (List.mem_of_getElem? (i := 2) rfl))) (vx_n)))))) (by decide +kernel) hX.1.1 hX.1.2 hS (hl.1.trans hml.symm) dX0_next_19 dX0_next_22 dX0_next_23 dX0_next_25 dX0_next_28 (fun x h => (hex x h).elim) (Nat.le_of_ble_eq_true rfl) (Nat.le_of_ble_eq_true rfl) (Nat.le_of_ble_eq_true rfl) (Nat.le_of_ble_eq_true rfl) hlocks (r_t (rk_kN_2 (fun z => h1 ((nI_ltI (by omega) (by omega)).mpr z.2))) (by decide) (by decide +kernel) hP hK hD hS) hS.2.2 (Nat.le_of_ble_eq_true rfl) (Nat.le_of_ble_eq_true rfl)
  · exact r_x (rm := ({ frames := 7, cells := 1, slots := 6, locals := 130 } : Room)) (As := [.int ee]) (rest := []) (k_co_bad l D ad cI cJ tl h r1 f1 s1 R F S cn ee hl9 he) SC (cwV 1 hts gX0_next_X0_checkEntryOrNone rfl rfl rfl (by decide +kernel) ⟨Nat.le_of_ble_eq_true rfl, Nat.le_of_ble_eq_true rfl⟩) hP hK hD hS hA hX 0 rfl rfl rfl hl.1 rfl (Nat.le_of_ble_eq_true rfl) dX0_next_2 ⟨Nat.le_of_ble_eq_true rfl, Nat.le_of_ble_eq_true rfl⟩ hex hlocks (rk_kN_2 (fun z => he z.1)).symm (Nat.le_of_ble_eq_true rfl) (Nat.le_of_ble_eq_true rfl)
set_option maxHeartbeats 4000000 in
set_option maxRecDepth 100000 in
theorem m_place (l : Launch) (D : va_G) (ad : Nat → Nat) (cI cJ : ClassId) (tl : va_W) (h r1 f1 s1 : Nat) (R F S : Nat → Int32) (cn : Nat) (ee : Int32) (hl9 : l.stackTraces = false) (hR : rk_ok R cn) : uT l yX0_place wsX0_place ({ frames := 8, cells := 1, slots := 6, locals := 160 } : Room) D ad [(cI, .int), (cJ, .long)] [.ref h, .int ee] (wX h r1 f1 s1 cI R F S cn tl) (wX h r1 f1 s1 cI R F S cn tl) (rk_kP ee cn) (nI (rk_pl R ee cn)) := by
  unfold uT
  refine st_T (Qc := qT D [(cI, .int), (cJ, .long)] (wX h r1 f1 s1 cI R F S cn tl) (rk_kP ee cn) (nI (rk_pl R ee cn))) (XC := xT D [(cI, .int), (cJ, .long)] (wX h r1 f1 s1 cI R F S cn tl) (rk_kP ee cn)) (mc := 1) (ms := 6) (cc := cX0_place) (maxL := 2) (ret := (some .int)) [.ref h, .int ee] (by decide) rfl (Nat.le_of_ble_eq_true rfl) (fun p en s m below meth c A ls hex hx hb hr hlocks hml hts hown hA hS hP hK hD hX hl => ?_)
  have hown : s.vm.findClass RX0 = some m.cls := hown
  have hl : lv_has ls 2 [(0, .ref h), (1, .int ee)] := hl
  have SC : CallFix p m c cX0_place 2 s ([.ref h, .int ee] : List Value).toArray wsX0_place RX0 := ⟨hx, hb, hml, hown, hts⟩
  have hc := hR.1
  refine lv_aload_n hx hb dX0_place_0 rfl (lv_at hl 0 rfl) ?_
  refine lv_iload_n hx hb dX0_place_1 rfl (lv_at hl 1 rfl) ?_
  by_cases he : rk_E ee cn
  · refine r_v (rm := ({ frames := 0, cells := 0, slots := 0, locals := 0 } : Room)) (As := [.int ee]) (rest := []) (k_ce_ok l D ad cI cJ tl h r1 f1 s1 R F S cn ee he) SC (cwV 1 hts gX0_place_X0_checkEntry rfl rfl rfl (by decide +kernel) ⟨Nat.le_of_ble_eq_true rfl, Nat.le_of_ble_eq_true rfl⟩) hP hK hD hS hA hX 0 rfl rfl rfl hl.1 rfl (Nat.le_of_ble_eq_true rfl) dX0_place_2 ⟨Nat.le_of_ble_eq_true rfl, Nat.le_of_ble_eq_true rfl⟩ (fun H locs hP hD hS => ?_)
    have hP : va_P D vwD (wX h r1 f1 s1 cI R F S cn tl) H := hP
    have hD : va_D A (wX h r1 f1 s1 cI R F S cn tl) := hD
    refine lv_aload_n hx hb dX0_place_5 rfl (lv_at hl 0 rfl) ?_
    refine lv_iload_n hx hb dX0_place_6 rfl (lv_at hl 1 rfl) ?_
    refine r_i (rm := ({ frames := 0, cells := 0, slots := 0, locals := 0 } : Room)) (As := [.int ee]) (rest := []) (k_po l D ad cI cJ tl h r1 f1 s1 R F S cn ee hc) SC (cwV 1 hts gX0_place_X0_placeOf rfl rfl rfl (by decide +kernel) ⟨Nat.le_of_ble_eq_true rfl, Nat.le_of_ble_eq_true rfl⟩) hP hK hD hS hA hX 0 rfl rfl rfl hl.1 rfl (Nat.le_of_ble_eq_true rfl) dX0_place_7 ⟨Nat.le_of_ble_eq_true rfl, Nat.le_of_ble_eq_true rfl⟩ (fun H locs hP hD hS => ?_)
    have hP : va_P D vwD (wX h r1 f1 s1 cI R F S cn tl) H := hP
    have hD : va_D A (wX h r1 f1 s1 cI R F S cn tl) := hD
    exact e_t hx hb hr hlocks (rk_kP_0 he) hP hK hD hS dX0_place_10 (Nat.le_of_ble_eq_true rfl) (Nat.le_of_ble_eq_true rfl)
  · exact r_x (rm := ({ frames := 6, cells := 1, slots := 6, locals := 100 } : Room)) (As := [.int ee]) (rest := []) (k_ce_bad l D ad cI cJ tl h r1 f1 s1 R F S cn ee hl9 he) SC (cwV 1 hts gX0_place_X0_checkEntry rfl rfl rfl (by decide +kernel) ⟨Nat.le_of_ble_eq_true rfl, Nat.le_of_ble_eq_true rfl⟩) hP hK hD hS hA hX 0 rfl rfl rfl hl.1 rfl (Nat.le_of_ble_eq_true rfl) dX0_place_2 ⟨Nat.le_of_ble_eq_true rfl, Nat.le_of_ble_eq_true rfl⟩ hex hlocks (rk_kP_2 he).symm (Nat.le_of_ble_eq_true rfl) (Nat.le_of_ble_eq_true rfl)
end
section
/-! The reference: its helpers -/
set_option maxHeartbeats 4000000 in
set_option maxRecDepth 100000 in
theorem j_ch_ok (l : Launch) (D : va_G) (ad : Nat → Nat) (cI cJ : ClassId) (w0 : va_W)  : uV l yZ_check wsZ_check ({ frames := 0, cells := 0, slots := 0, locals := 0 } : Room) D ad [(cI, .int), (cJ, .long)] [.int 1] (w0) (w0) 0 0 := by
  unfold uV
  refine st_M (Qc := qV D [(cI, .int), (cJ, .long)] w0) (mc := 0) (ms := 0) (cc := cZ_check) (maxL := 1) (ret := none) [.int 1] (by decide) rfl (Nat.le_of_ble_eq_true rfl) (fun p en s m below meth c A ls hx hb hr hlocks hml hts hown hA hS hP hK hD hX hl => ?_)
  have hown : s.vm.findClass RZ = some m.cls := hown
  have hl : lv_has ls 1 [(0, .int 1)] := hl
  have SC : CallFix p m c cZ_check 1 s ([.int 1] : List Value).toArray wsZ_check RZ := ⟨hx, hb, hml, hown, hts⟩
  refine lv_iload_n hx hb dZ_check_0 rfl (lv_at hl 0 rfl) ?_
  refine lv_if_ne (tgt := 12) hx hb dZ_check_1 (by decide) (fun _ => ?_) (fun h9 => absurd h9 ((by decide : ¬ (1 : Int32) = 0)))
  exact e_v hx hb hr hlocks hP hK hD hS dZ_check_12 (Nat.le_of_ble_eq_true rfl) (Nat.le_of_ble_eq_true rfl)
set_option maxHeartbeats 4000000 in
set_option maxRecDepth 100000 in
theorem j_ch_bad (l : Launch) (D : va_G) (ad : Nat → Nat) (cI cJ : ClassId) (w0 : va_W) (hl9 : l.stackTraces = false) : uX l yZ_check wsZ_check ({ frames := 6, cells := 1, slots := 6, locals := 100 } : Room) D ad [(cI, .int), (cJ, .long)] [.int 0] (w0) 1 := by
  unfold uX
  refine st_T (Qc := qX D [(cI, .int), (cJ, .long)] w0) (XC := xT D [(cI, .int), (cJ, .long)] w0 1) (mc := 1) (ms := 6) (cc := cZ_check) (maxL := 1) (ret := none) [.int 0] (by decide) rfl (Nat.le_of_ble_eq_true rfl) (fun p en s m below meth c A ls hex hx hb hr hlocks hml hts hown hA hS hP hK hD hX hl => ?_)
  have hown : s.vm.findClass RZ = some m.cls := hown
  have hl : lv_has ls 1 [(0, .int 0)] := hl
  have SC : CallFix p m c cZ_check 1 s ([.int 0] : List Value).toArray wsZ_check RZ := ⟨hx, hb, hml, hown, hts⟩
  refine lv_iload_n hx hb dZ_check_0 rfl (lv_at hl 0 rfl) ?_
  refine lv_if_ne (tgt := 12) hx hb dZ_check_1 (by decide) (fun h9 => absurd h9 (fun q => q rfl)) (fun _ => ?_)
  exact vx_throw0 (own := RZ) (cls := "java/lang/IllegalArgumentException") (names := ["java/lang/RuntimeException", "java/lang/Exception"]) hx hb hl9 hown (by decide +kernel) (by decide +kernel) (hts (.classLink RZ 19 "java/lang/IllegalArgumentException") (by decide +kernel)) (hts (.initialized "java/lang/IllegalArgumentException") (by decide +kernel)) (vx_hat (L := vx_at0 RZ 21 "java/lang/IllegalArgumentException" ["java/lang/RuntimeException", "java/lang/Exception"]) (B := [.castable "java/lang/IllegalArgumentException" "java/lang/IllegalArgumentException", .declares ⟨"java/lang/RuntimeException", "<init>", "()V"⟩, .declares ⟨"java/lang/Exception", "<init>", "()V"⟩, .declares ⟨"java/lang/Throwable", "<init>", "()V"⟩]) (fun w hw => hts w (List.mem_cons_of_mem _ (wsR_21 w hw))) (by decide +kernel) (vx_c (va_Nw.use rfl (hX.2.1 _ (List.mem_of_getElem? (i := 0) rfl))) (vx_c (va_Nw.use rfl (hX.2.2.1 _ (List.mem_of_getElem? (i := 3) rfl))) (vx_c (va_Nw.use rfl (hX.2.2.1 _ (List.mem_of_getElem? (i := 4) rfl))) (vx_c (va_Nw.use rfl (hX.2.2.1 _ (List.mem_of_getElem? (i := 5) rfl))) (vx_n)))))) (by decide +kernel) hX.1.1 hX.1.2 hS (hl.1.trans hml.symm) dZ_check_4 dZ_check_7 dZ_check_8 dZ_check_11 (fun x h => (hex x h).elim) (Nat.le_of_ble_eq_true rfl) (Nat.le_of_ble_eq_true rfl) (Nat.le_of_ble_eq_true rfl) (Nat.le_of_ble_eq_true rfl) hlocks (r_t (rfl) (by decide) (by decide +kernel) hP hK hD hS) hS.2.2 (Nat.le_of_ble_eq_true rfl) (Nat.le_of_ble_eq_true rfl)
set_option maxHeartbeats 4000000 in
set_option maxRecDepth 100000 in
theorem j_iw_1 (l : Launch) (D : va_G) (ad : Nat → Nat) (cI cJ : ClassId) (w0 : va_W) (a : Int32) (ha : rk_W a) : uI l yZ_isWeight wsZ_isWeight ({ frames := 0, cells := 0, slots := 0, locals := 0 } : Room) D ad [(cI, .int), (cJ, .long)] [.int a] (w0) (w0) (1) 0 0 := by
  unfold uI
  refine st_M (Qc := qI D [(cI, .int), (cJ, .long)] w0 1) (mc := 0) (ms := 0) (cc := cZ_isWeight) (maxL := 1) (ret := (some .boolean)) [.int a] (by decide) rfl (Nat.le_of_ble_eq_true rfl) (fun p en s m below meth c A ls hx hb hr hlocks hml hts hown hA hS hP hK hD hX hl => ?_)
  have hown : s.vm.findClass RZ = some m.cls := hown
  have hl : lv_has ls 1 [(0, .int a)] := hl
  refine lv_iload_n hx hb dZ_isWeight_0 rfl (lv_at hl 0 rfl) ?_
  refine lv_if_lt (tgt := 15) hx hb dZ_isWeight_1 (by decide) (fun h9 => absurd h9 (ha.1)) (fun _ => ?_)
  refine lv_iload_n hx hb dZ_isWeight_4 rfl (lv_at hl 0 rfl) ?_
  refine lv_sipush (v := 1000) hx hb dZ_isWeight_5 (by decide) ?_
  refine lv_icmp_gt (tgt := 15) hx hb dZ_isWeight_8 (by decide) (fun h9 => absurd h9 (ha.2)) (fun _ => ?_)
  refine lv_iconst (v := 1) hx hb dZ_isWeight_11 (by decide) ?_
  refine lv_goto (tgt := 16) hx hb dZ_isWeight_12 (by decide) ?_
  exact e_z hx hb hr rfl hlocks hP hK hD hS dZ_isWeight_16 (Nat.le_of_ble_eq_true rfl) (Nat.le_of_ble_eq_true rfl)
set_option maxHeartbeats 4000000 in
set_option maxRecDepth 100000 in
theorem j_iw_0 (l : Launch) (D : va_G) (ad : Nat → Nat) (cI cJ : ClassId) (w0 : va_W) (a : Int32) (hno : ¬ rk_W a) : uI l yZ_isWeight wsZ_isWeight ({ frames := 0, cells := 0, slots := 0, locals := 0 } : Room) D ad [(cI, .int), (cJ, .long)] [.int a] (w0) (w0) (0) 0 0 := by
  unfold uI
  refine st_M (Qc := qI D [(cI, .int), (cJ, .long)] w0 0) (mc := 0) (ms := 0) (cc := cZ_isWeight) (maxL := 1) (ret := (some .boolean)) [.int a] (by decide) rfl (Nat.le_of_ble_eq_true rfl) (fun p en s m below meth c A ls hx hb hr hlocks hml hts hown hA hS hP hK hD hX hl => ?_)
  have hown : s.vm.findClass RZ = some m.cls := hown
  have hl : lv_has ls 1 [(0, .int a)] := hl
  refine lv_iload_n hx hb dZ_isWeight_0 rfl (lv_at hl 0 rfl) ?_
  refine lv_if_lt (tgt := 15) hx hb dZ_isWeight_1 (by decide) (fun h1 => ?_) (fun h1 => ?_)
  · refine lv_iconst (v := 0) hx hb dZ_isWeight_15 (by decide) ?_
    exact e_z hx hb hr rfl hlocks hP hK hD hS dZ_isWeight_16 (Nat.le_of_ble_eq_true rfl) (Nat.le_of_ble_eq_true rfl)
  · refine lv_iload_n hx hb dZ_isWeight_4 rfl (lv_at hl 0 rfl) ?_
    refine lv_sipush (v := 1000) hx hb dZ_isWeight_5 (by decide) ?_
    refine lv_icmp_gt (tgt := 15) hx hb dZ_isWeight_8 (by decide) (fun h2 => ?_) (fun h9 => absurd ⟨h1, h9⟩ hno)
    refine lv_iconst (v := 0) hx hb dZ_isWeight_15 (by decide) ?_
    exact e_z hx hb hr rfl hlocks hP hK hD hS dZ_isWeight_16 (Nat.le_of_ble_eq_true rfl) (Nat.le_of_ble_eq_true rfl)
set_option maxHeartbeats 4000000 in
set_option maxRecDepth 100000 in
theorem j_th_ok (l : Launch) (D : va_G) (ad : Nat → Nat) (cI cJ : ClassId) (p0 p1 p2 p3 p4 : Nat × va_E) (h r1 f1 s1 : Nat) (R F S : Nat → Int32) (cn : Nat) (th : Int32) (ee : Int32) (he : rk_E ee cn) : uV l yZ_there wsZ_there ({ frames := 0, cells := 0, slots := 0, locals := 0 } : Room) D ad [(cI, .int), (cJ, .long)] [.ref h, .int ee] (wM p0 p1 p2 p3 p4 h r1 f1 s1 cI R F S cn th) (wM p0 p1 p2 p3 p4 h r1 f1 s1 cI R F S cn th) 0 0 := by
  unfold uV
  refine st_M (Qc := qV D [(cI, .int), (cJ, .long)] (wM p0 p1 p2 p3 p4 h r1 f1 s1 cI R F S cn th)) (mc := 0) (ms := 0) (cc := cZ_there) (maxL := 2) (ret := none) [.ref h, .int ee] (by decide) rfl (Nat.le_of_ble_eq_true rfl) (fun p en s m below meth c A ls hx hb hr hlocks hml hts hown hA hS hP hK hD hX hl => ?_)
  have hown : s.vm.findClass RZ = some m.cls := hown
  have hl : lv_has ls 2 [(0, .ref h), (1, .int ee)] := hl
  have hu : ∀ w ∈ u_ws RZ TZ 5, w ∈ wsZ_there := fun w h => List.mem_cons_of_mem _ (wsZ0_in w h)
  have hF22 := hts (.fieldLink RZ 22 "RankRowsModel" "many" "I") (by decide +kernel)
  have SC : CallFix p m c cZ_there 2 s ([.ref h, .int ee] : List Value).toArray wsZ_there RZ := ⟨hx, hb, hml, hown, hts⟩
  refine lv_iload_n hx hb dZ_there_0 rfl (lv_at hl 1 rfl) ?_
  refine lv_if_lt (tgt := 12) hx hb dZ_there_1 (by decide) (fun h9 => absurd h9 (he.1)) (fun _ => ?_)
  refine lv_iload_n hx hb dZ_there_4 rfl (lv_at hl 1 rfl) ?_
  refine lv_aload_n hx hb dZ_there_5 rfl (lv_at hl 0 rfl) ?_
  refine va_get (D := D) (ci := 1) (v := .int (nI cn)) (C := RZ) (T := TZ) (N := 5) hx hb hts hu hown hK hP 5 rfl rfl 3 (by decide) hF22 (fun _ h9 => h9) rfl dZ_there_6 ?_
  refine lv_icmp_lt (tgt := 20) hx hb dZ_there_9 (by decide) (fun _ => ?_) (fun h9 => absurd (he.2) h9)
  exact e_v hx hb hr hlocks hP hK hD hS dZ_there_20 (Nat.le_of_ble_eq_true rfl) (Nat.le_of_ble_eq_true rfl)
set_option maxHeartbeats 4000000 in
set_option maxRecDepth 100000 in
theorem j_th_bad (l : Launch) (D : va_G) (ad : Nat → Nat) (cI cJ : ClassId) (p0 p1 p2 p3 p4 : Nat × va_E) (h r1 f1 s1 : Nat) (R F S : Nat → Int32) (cn : Nat) (th : Int32) (ee : Int32) (hl9 : l.stackTraces = false) (hno : ¬ rk_E ee cn) : uX l yZ_there wsZ_there ({ frames := 6, cells := 1, slots := 6, locals := 100 } : Room) D ad [(cI, .int), (cJ, .long)] [.ref h, .int ee] (wM p0 p1 p2 p3 p4 h r1 f1 s1 cI R F S cn th) 2 := by
  unfold uX
  refine st_T (Qc := qX D [(cI, .int), (cJ, .long)] (wM p0 p1 p2 p3 p4 h r1 f1 s1 cI R F S cn th)) (XC := xT D [(cI, .int), (cJ, .long)] (wM p0 p1 p2 p3 p4 h r1 f1 s1 cI R F S cn th) 2) (mc := 1) (ms := 6) (cc := cZ_there) (maxL := 2) (ret := none) [.ref h, .int ee] (by decide) rfl (Nat.le_of_ble_eq_true rfl) (fun p en s m below meth c A ls hex hx hb hr hlocks hml hts hown hA hS hP hK hD hX hl => ?_)
  have hown : s.vm.findClass RZ = some m.cls := hown
  have hl : lv_has ls 2 [(0, .ref h), (1, .int ee)] := hl
  have hu : ∀ w ∈ u_ws RZ TZ 5, w ∈ wsZ_there := fun w h => List.mem_cons_of_mem _ (wsZ0_in w h)
  have hF22 := hts (.fieldLink RZ 22 "RankRowsModel" "many" "I") (by decide +kernel)
  have SC : CallFix p m c cZ_there 2 s ([.ref h, .int ee] : List Value).toArray wsZ_there RZ := ⟨hx, hb, hml, hown, hts⟩
  have hthrow : ∀ ls : Array Slot, lv_has ls 2 [(0, .ref h), (1, .int ee)] → W p l en ({ frames := 6, cells := 1, slots := 6, locals := 100 } : Room) s m ([.ref h, .int ee] : List Value).toArray below meth c s.heap [] 0 0 (vx_MQ below (qX D [(cI, .int), (cJ, .long)] (wM p0 p1 p2 p3 p4 h r1 f1 s1 cI R F S cn th) A) (xT D [(cI, .int), (cJ, .long)] (wM p0 p1 p2 p3 p4 h r1 f1 s1 cI R F S cn th) 2 A) ([.ref h, .int ee] : List Value).toArray s 1 6 A) (F0 m 12 ls []) := by
    intro ls hl
    exact vx_throw0 (own := RZ) (cls := "java/util/NoSuchElementException") (names := ["java/lang/RuntimeException", "java/lang/Exception"]) hx hb hl9 hown (by decide +kernel) (by decide +kernel) (hts (.classLink RZ 26 "java/util/NoSuchElementException") (by decide +kernel)) (hts (.initialized "java/util/NoSuchElementException") (by decide +kernel)) (vx_hat (L := vx_at0 RZ 28 "java/util/NoSuchElementException" ["java/lang/RuntimeException", "java/lang/Exception"]) (B := [.castable "java/util/NoSuchElementException" "java/util/NoSuchElementException", .declares ⟨"java/lang/RuntimeException", "<init>", "()V"⟩, .declares ⟨"java/lang/Exception", "<init>", "()V"⟩, .declares ⟨"java/lang/Throwable", "<init>", "()V"⟩]) (fun w hw => hts w (List.mem_cons_of_mem _ (wsR_28 w hw))) (by decide +kernel) (vx_c (va_Nw.use rfl (hX.2.1 _ (List.mem_of_getElem? (i := 1) rfl))) (vx_c (va_Nw.use rfl (hX.2.2.1 _ (List.mem_of_getElem? (i := 3) rfl))) (vx_c (va_Nw.use rfl (hX.2.2.1 _ (List.mem_of_getElem? (i := 4) rfl))) (vx_c (va_Nw.use rfl (hX.2.2.1 _ (List.mem_of_getElem? (i := 5) rfl))) (vx_n)))))) (by decide +kernel) hX.1.1 hX.1.2 hS (hl.1.trans hml.symm) dZ_there_12 dZ_there_15 dZ_there_16 dZ_there_19 (fun x h => (hex x h).elim) (Nat.le_of_ble_eq_true rfl) (Nat.le_of_ble_eq_true rfl) (Nat.le_of_ble_eq_true rfl) (Nat.le_of_ble_eq_true rfl) hlocks (r_t (rfl) (by decide) (by decide +kernel) hP hK hD hS) hS.2.2 (Nat.le_of_ble_eq_true rfl) (Nat.le_of_ble_eq_true rfl)
  refine lv_iload_n hx hb dZ_there_0 rfl (lv_at hl 1 rfl) ?_
  refine lv_if_lt (tgt := 12) hx hb dZ_there_1 (by decide) (fun h1 => ?_) (fun h1 => ?_)
  · exact hthrow ls hl
  · refine lv_iload_n hx hb dZ_there_4 rfl (lv_at hl 1 rfl) ?_
    refine lv_aload_n hx hb dZ_there_5 rfl (lv_at hl 0 rfl) ?_
    refine va_get (D := D) (ci := 1) (v := .int (nI cn)) (C := RZ) (T := TZ) (N := 5) hx hb hts hu hown hK hP 5 rfl rfl 3 (by decide) hF22 (fun _ h9 => h9) rfl dZ_there_6 ?_
    refine lv_icmp_lt (tgt := 20) hx hb dZ_there_9 (by decide) (fun h9 => absurd ⟨h1, h9⟩ hno) (fun h2 => ?_)
    exact hthrow ls hl
set_option maxHeartbeats 4000000 in
set_option maxRecDepth 100000 in
theorem j_ir (l : Launch) (D : va_G) (ad : Nat → Nat) (cI cJ : ClassId) (p0 p1 p2 p3 p4 : Nat × va_E) (h r1 f1 s1 : Nat) (R F S : Nat → Int32) (cn : Nat) (th : Int32) (ee : Int32) (hc : cn ≤ 4000) (hin : rk_pl R ee cn < cn) : uI l yZ_inRow wsZ_inRow ({ frames := 0, cells := 0, slots := 0, locals := 0 } : Room) D ad [(cI, .int), (cJ, .long)] [.ref h, .int ee] (wM p0 p1 p2 p3 p4 h r1 f1 s1 cI R F S cn th) (wM p0 p1 p2 p3 p4 h r1 f1 s1 cI R F S cn th) (nI (rk_pl R ee cn)) 0 0 := by
  unfold uI
  refine st_M (Qc := qI D [(cI, .int), (cJ, .long)] (wM p0 p1 p2 p3 p4 h r1 f1 s1 cI R F S cn th) (nI (rk_pl R ee cn))) (mc := 0) (ms := 0) (cc := cZ_inRow) (maxL := 3) (ret := (some .int)) [.ref h, .int ee] (by decide) rfl (Nat.le_of_ble_eq_true rfl) (fun p en s m below meth c A ls hx hb hr hlocks hml hts hown hA hS hP hK hD hX hl => ?_)
  have hown : s.vm.findClass RZ = some m.cls := hown
  have hl : lv_has ls 3 [(0, .ref h), (1, .int ee)] := hl
  have hu : ∀ w ∈ u_ws RZ TZ 5, w ∈ wsZ_inRow := fun w h => List.mem_cons_of_mem _ (wsZ0_in w h)
  have hF9 := hts (.fieldLink RZ 9 "RankRowsModel" "row" "[I") (by decide +kernel)
  refine lv_iconst (v := 0) hx hb dZ_inRow_0 (by decide) ?_
  refine lv_istore_n (lv' := [(2, .int 0), (0, .ref h), (1, .int ee)]) hx hb dZ_inRow_1 rfl hl (by decide) rfl (fun ls hl => ?_)
  have loop : ∀ (d k : Nat), cn - k < d → k ≤ rk_pl R ee cn → ∀ ls : Array Slot, lv_has ls 3 [(2, .int (nI k)), (0, .ref h), (1, .int ee)] → W p l en ({ frames := 0, cells := 0, slots := 0, locals := 0 } : Room) s m ([.ref h, .int ee] : List Value).toArray below meth c s.heap [] 0 0 (MQ below (qI D [(cI, .int), (cJ, .long)] (wM p0 p1 p2 p3 p4 h r1 f1 s1 cI R F S cn th) (nI (rk_pl R ee cn)) A) ([.ref h, .int ee] : List Value).toArray s 0 0 A) (F0 m 2 ls []) := by
    intro d
    induction d with
    | zero => intro k hd; exact absurd hd (Nat.not_lt_zero _)
    | succ d ih =>
      intro k hd hk ls hl
      refine lv_aload_n hx hb dZ_inRow_2 rfl (lv_at hl 1 rfl) ?_
      refine va_get (D := D) (ci := 1) (v := .ref r1) (C := RZ) (T := TZ) (N := 5) hx hb hts hu hown hK hP 5 rfl rfl 0 (by decide) hF9 (fun _ h9 => h9) rfl dZ_inRow_3 ?_
      refine lv_iload_n hx hb dZ_inRow_6 rfl (lv_at hl 0 rfl) ?_
      refine q_iald hx hb hK hP 6 0 rfl rfl k (by omega) (Nat.le_refl _) rfl dZ_inRow_7 ?_
      refine lv_iload_n hx hb dZ_inRow_8 rfl (lv_at hl 2 rfl) ?_
      refine lv_icmp_eq (tgt := 18) hx hb dZ_inRow_9 (by decide) (fun h1 => ?_) (fun h1 => ?_)
      · have hkp : k = rk_pl R ee cn := by
          rcases Nat.lt_or_ge k (rk_pl R ee cn) with q | q
          · exact absurd h1 (rk_pl_no q)
          · omega
        refine lv_iload_n hx hb dZ_inRow_18 rfl (lv_at hl 0 rfl) ?_
        refine q_top (nI (rk_pl R ee cn)) (by rw [← hkp]) ?_
        exact e_i hx hb hr hlocks hP hK hD hS dZ_inRow_19 (Nat.le_of_ble_eq_true rfl) (Nat.le_of_ble_eq_true rfl)
      · have hkp : k ≠ rk_pl R ee cn := fun q => h1 (by rw [q]; exact rk_pl_at hin)
        refine lv_iinc (k := 0) (v := nI (k + 1)) (lv' := [(2, .int (nI (k + 1))), (0, .ref h), (1, .int ee)]) hx hb dZ_inRow_12 hl rfl (by rw [(by decide : Int32.ofInt 1 = 1)]; exact nI_1 _) (by decide) rfl (fun ls hl => ?_)
        refine lv_goto (tgt := 2) hx hb dZ_inRow_15 (by decide) ?_
        exact ih (k + 1) (by omega) (by omega) ls hl
  have hl : lv_has ls 3 [(2, .int (nI 0)), (0, .ref h), (1, .int ee)] := hl
  exact loop (cn + 1) 0 (by omega) (Nat.zero_le _) ls hl
set_option maxHeartbeats 4000000 in
set_option maxRecDepth 100000 in
theorem j_op (l : Launch) (D : va_G) (ad : Nat → Nat) (cI cJ : ClassId) (p0 p1 p2 p3 p4 : Nat × va_E) (h r1 f1 s1 : Nat) (R F S : Nat → Int32) (cn : Nat) (th : Int32) (x a b : Int32) (q : Nat) (hxq : x = nI q) (hq : q ≤ cn) (hm : cn + 1 ≤ 4000) : uV l yZ_open wsZ_open ({ frames := 0, cells := 0, slots := 0, locals := 0 } : Room) D ad [(cI, .int), (cJ, .long)] [.ref h, .int x, .int a, .int b] (wM p0 p1 p2 p3 p4 h r1 f1 s1 cI R F S cn th) (wM p0 p1 p2 p3 p4 h r1 f1 s1 cI (rk_in R cn q 1) (rk_fl F cn 1 a) (rk_fl S cn 1 b) (cn + 1) th) 0 0 := by
  subst hxq
  unfold uV
  refine st_M (Qc := qV D [(cI, .int), (cJ, .long)] (wM p0 p1 p2 p3 p4 h r1 f1 s1 cI (rk_in R cn q 1) (rk_fl F cn 1 a) (rk_fl S cn 1 b) (cn + 1) th)) (mc := 0) (ms := 0) (cc := cZ_open) (maxL := 5) (ret := none) [.ref h, .int (nI q), .int a, .int b] (by decide) rfl (Nat.le_of_ble_eq_true rfl) (fun p en s m below meth c A ls hx hb hr hlocks hml hts hown hA hS hP hK hD hX hl => ?_)
  have hown : s.vm.findClass RZ = some m.cls := hown
  have hl : lv_has ls 5 [(0, .ref h), (1, .int (nI q)), (2, .int a), (3, .int b)] := hl
  have hu : ∀ w ∈ u_ws RZ TZ 5, w ∈ wsZ_open := fun w h => List.mem_cons_of_mem _ (wsZ0_in w h)
  have hF9 := hts (.fieldLink RZ 9 "RankRowsModel" "row" "[I") (by decide +kernel)
  have hF13 := hts (.fieldLink RZ 13 "RankRowsModel" "first" "[I") (by decide +kernel)
  have hF16 := hts (.fieldLink RZ 16 "RankRowsModel" "second" "[I") (by decide +kernel)
  have hF22 := hts (.fieldLink RZ 22 "RankRowsModel" "many" "I") (by decide +kernel)
  refine lv_aload_n hx hb dZ_open_0 rfl (lv_at hl 0 rfl) ?_
  refine va_get (D := D) (ci := 1) (v := .int (nI cn)) (C := RZ) (T := TZ) (N := 5) hx hb hts hu hown hK hP 5 rfl rfl 3 (by decide) hF22 (fun _ h9 => h9) rfl dZ_open_1 ?_
  refine lv_istore (lv' := [(4, .int (nI cn)), (0, .ref h), (1, .int (nI q)), (2, .int a), (3, .int b)]) hx hb dZ_open_4 hl (by decide) rfl (fun ls hl => ?_)
  have loop : ∀ (d k : Nat), k - q < d → q ≤ k → k ≤ cn → ∀ (H : Heap) (locs : List Loc), va_P D vwD (wM p0 p1 p2 p3 p4 h r1 f1 s1 cI (rk_sh R cn k) F S cn th) H → va_D A (wM p0 p1 p2 p3 p4 h r1 f1 s1 cI (rk_sh R cn k) F S cn th) → va_S A s.heap H locs → ∀ ls : Array Slot, lv_has ls 5 [(4, .int (nI k)), (0, .ref h), (1, .int (nI q)), (2, .int a), (3, .int b)] → W p l en ({ frames := 0, cells := 0, slots := 0, locals := 0 } : Room) s m ([.ref h, .int (nI q), .int a, .int b] : List Value).toArray below meth c H locs 0 0 (MQ below (qV D [(cI, .int), (cJ, .long)] (wM p0 p1 p2 p3 p4 h r1 f1 s1 cI (rk_in R cn q 1) (rk_fl F cn 1 a) (rk_fl S cn 1 b) (cn + 1) th) A) ([.ref h, .int (nI q), .int a, .int b] : List Value).toArray s 0 0 A) (F0 m 6 ls []) := by
    intro d
    induction d with
    | zero => intro k hd; exact absurd hd (Nat.not_lt_zero _)
    | succ d ih =>
      intro k hd hqk hkc H locs hP hD hS ls hl
      refine lv_iload hx hb dZ_open_6 (lv_at hl 0 rfl) ?_
      refine lv_iload_n hx hb dZ_open_8 rfl (lv_at hl 2 rfl) ?_
      refine lv_icmp_le (tgt := 34) hx hb dZ_open_9 (by decide) (fun h1 => ?_) (fun h1 => ?_)
      · have hkq : k = q := by have := (nI_leI (by omega) (by omega)).mp h1; omega
        rw [hkq] at hP hD
        refine lv_aload_n hx hb dZ_open_34 rfl (lv_at hl 1 rfl) ?_
        refine va_get (D := D) (ci := 1) (v := .ref r1) (C := RZ) (T := TZ) (N := 5) hx hb hts hu hown hK hP 5 rfl rfl 0 (by decide) hF9 (fun _ h9 => h9) rfl dZ_open_35 ?_
        refine lv_iload_n hx hb dZ_open_38 rfl (lv_at hl 2 rfl) ?_
        refine lv_aload_n hx hb dZ_open_39 rfl (lv_at hl 1 rfl) ?_
        refine va_get (D := D) (ci := 1) (v := .int (nI cn)) (C := RZ) (T := TZ) (N := 5) hx hb hts hu hown hK hP 5 rfl rfl 3 (by decide) hF22 (fun _ h9 => h9) rfl dZ_open_40 ?_
        refine q_iast hx hb hK hP hD hS 6 0 rfl rfl q (by omega) (Nat.le_refl _) rfl dZ_open_43 (fun H locs hP hD hS => ?_)
        have hP : va_P D vwD (wM p0 p1 p2 p3 p4 h r1 f1 s1 cI (upd (rk_sh R cn q) q (nI cn)) F S cn th) H := hP
        have hD : va_D A (wM p0 p1 p2 p3 p4 h r1 f1 s1 cI (upd (rk_sh R cn q) q (nI cn)) F S cn th) := hD
        have hs := rk_sh_p R hq
        rw [hs] at hP hD
        refine lv_aload_n hx hb dZ_open_44 rfl (lv_at hl 1 rfl) ?_
        refine va_get (D := D) (ci := 1) (v := .ref f1) (C := RZ) (T := TZ) (N := 5) hx hb hts hu hown hK hP 5 rfl rfl 1 (by decide) hF13 (fun _ h9 => h9) rfl dZ_open_45 ?_
        refine lv_aload_n hx hb dZ_open_48 rfl (lv_at hl 1 rfl) ?_
        refine va_get (D := D) (ci := 1) (v := .int (nI cn)) (C := RZ) (T := TZ) (N := 5) hx hb hts hu hown hK hP 5 rfl rfl 3 (by decide) hF22 (fun _ h9 => h9) rfl dZ_open_49 ?_
        refine lv_iload_n hx hb dZ_open_52 rfl (lv_at hl 3 rfl) ?_
        refine q_iast hx hb hK hP hD hS 7 0 rfl rfl cn (by omega) (Nat.le_refl _) rfl dZ_open_53 (fun H locs hP hD hS => ?_)
        have hP : va_P D vwD (wM p0 p1 p2 p3 p4 h r1 f1 s1 cI (rk_in R cn q 1) (upd F cn a) S cn th) H := hP
        have hD : va_D A (wM p0 p1 p2 p3 p4 h r1 f1 s1 cI (rk_in R cn q 1) (upd F cn a) S cn th) := hD
        rw [rk_fl_1] at hP hD
        refine lv_aload_n hx hb dZ_open_54 rfl (lv_at hl 1 rfl) ?_
        refine va_get (D := D) (ci := 1) (v := .ref s1) (C := RZ) (T := TZ) (N := 5) hx hb hts hu hown hK hP 5 rfl rfl 2 (by decide) hF16 (fun _ h9 => h9) rfl dZ_open_55 ?_
        refine lv_aload_n hx hb dZ_open_58 rfl (lv_at hl 1 rfl) ?_
        refine va_get (D := D) (ci := 1) (v := .int (nI cn)) (C := RZ) (T := TZ) (N := 5) hx hb hts hu hown hK hP 5 rfl rfl 3 (by decide) hF22 (fun _ h9 => h9) rfl dZ_open_59 ?_
        refine lv_iload_n hx hb dZ_open_62 rfl (lv_at hl 4 rfl) ?_
        refine q_iast hx hb hK hP hD hS 8 0 rfl rfl cn (by omega) (Nat.le_refl _) rfl dZ_open_63 (fun H locs hP hD hS => ?_)
        have hP : va_P D vwD (wM p0 p1 p2 p3 p4 h r1 f1 s1 cI (rk_in R cn q 1) (rk_fl F cn 1 a) (upd S cn b) cn th) H := hP
        have hD : va_D A (wM p0 p1 p2 p3 p4 h r1 f1 s1 cI (rk_in R cn q 1) (rk_fl F cn 1 a) (upd S cn b) cn th) := hD
        rw [rk_fl_1] at hP hD
        refine lv_aload_n hx hb dZ_open_64 rfl (lv_at hl 1 rfl) ?_
        refine lv_dup hx hb dZ_open_65 rfl ?_
        refine va_get (D := D) (ci := 1) (v := .int (nI cn)) (C := RZ) (T := TZ) (N := 5) hx hb hts hu hown hK hP 5 rfl rfl 3 (by decide) hF22 (fun _ h9 => h9) rfl dZ_open_66 ?_
        refine lv_iconst (v := 1) hx hb dZ_open_69 (by decide) ?_
        refine lv_iadd hx hb dZ_open_70 ?_
        refine q_top (nI (cn + 1)) (nI_1 _) ?_
        refine va_put (D := D) (ci := 1) (v := .int (nI (cn + 1))) (ty := .int) (C := RZ) (T := TZ) (N := 5) hx hb hts hu tyZ tyZ_ok nmZ hown hK hP hD hS 5 rfl rfl 3 (by decide) hF22 (fun _ h9 => h9) rfl (by decide +kernel) rfl rfl (Nat.le_of_ble_eq_true rfl) dZ_open_71 (fun H locs hP hD hS => ?_)
        have hP : va_P D vwD (wM p0 p1 p2 p3 p4 h r1 f1 s1 cI (rk_in R cn q 1) (rk_fl F cn 1 a) (rk_fl S cn 1 b) (cn + 1) th) H := hP
        have hD : va_D A (wM p0 p1 p2 p3 p4 h r1 f1 s1 cI (rk_in R cn q 1) (rk_fl F cn 1 a) (rk_fl S cn 1 b) (cn + 1) th) := hD
        exact e_v hx hb hr hlocks hP hK hD hS dZ_open_74 (Nat.le_of_ble_eq_true rfl) (Nat.le_of_ble_eq_true rfl)
      · have hkq : q < k := Nat.lt_of_not_le (fun z9 => h1 ((nI_leI (by omega) (by omega)).mpr z9))
        obtain ⟨kk, rfl⟩ : ∃ kk, k = kk + 1 := ⟨k - 1, by omega⟩
        refine lv_aload_n hx hb dZ_open_12 rfl (lv_at hl 1 rfl) ?_
        refine va_get (D := D) (ci := 1) (v := .ref r1) (C := RZ) (T := TZ) (N := 5) hx hb hts hu hown hK hP 5 rfl rfl 0 (by decide) hF9 (fun _ h9 => h9) rfl dZ_open_13 ?_
        refine lv_iload hx hb dZ_open_16 (lv_at hl 0 rfl) ?_
        refine lv_aload_n hx hb dZ_open_18 rfl (lv_at hl 1 rfl) ?_
        refine va_get (D := D) (ci := 1) (v := .ref r1) (C := RZ) (T := TZ) (N := 5) hx hb hts hu hown hK hP 5 rfl rfl 0 (by decide) hF9 (fun _ h9 => h9) rfl dZ_open_19 ?_
        refine lv_iload hx hb dZ_open_22 (lv_at hl 0 rfl) ?_
        refine lv_iconst (v := 1) hx hb dZ_open_24 (by decide) ?_
        refine lv_isub hx hb dZ_open_25 ?_
        refine q_top (nI kk) (nI_pred kk) ?_
        refine q_iald hx hb hK hP 6 0 rfl rfl kk (by omega) (Nat.le_refl _) rfl dZ_open_26 ?_
        refine q_iast hx hb hK hP hD hS 6 0 rfl rfl (kk + 1) (by omega) (Nat.le_refl _) rfl dZ_open_27 (fun H locs hP hD hS => ?_)
        have hP : va_P D vwD (wM p0 p1 p2 p3 p4 h r1 f1 s1 cI (upd (rk_sh R cn (kk + 1)) (kk + 1) ((rk_sh R cn (kk + 1)) kk)) F S cn th) H := hP
        have hD : va_D A (wM p0 p1 p2 p3 p4 h r1 f1 s1 cI (upd (rk_sh R cn (kk + 1)) (kk + 1) ((rk_sh R cn (kk + 1)) kk)) F S cn th) := hD
        have hs := rk_sh_s R (c := cn) (k := kk) (by omega)
        rw [hs] at hP hD
        refine lv_iinc (k := 0) (v := nI kk) (lv' := [(4, .int (nI kk)), (0, .ref h), (1, .int (nI q)), (2, .int a), (3, .int b)]) hx hb dZ_open_28 hl rfl (by rw [(by decide : Int32.ofInt (-1) = -1)]; exact pk_m1 _) (by decide) rfl (fun ls hl => ?_)
        refine lv_goto (tgt := 6) hx hb dZ_open_31 (by decide) ?_
        exact ih kk (by omega) (by omega) (by omega) H locs hP hD hS ls hl
  have hP : va_P D vwD (wM p0 p1 p2 p3 p4 h r1 f1 s1 cI (rk_sh R cn cn) F S cn th) s.heap := by rw [rk_sh_c]; exact hP
  have hD : va_D A (wM p0 p1 p2 p3 p4 h r1 f1 s1 cI (rk_sh R cn cn) F S cn th) := by rw [rk_sh_c]; exact hD
  exact loop (cn + 1) cn (by omega) hq (Nat.le_refl _) s.heap [] hP hD hS ls hl
set_option maxHeartbeats 4000000 in
set_option maxRecDepth 100000 in
theorem j_en (l : Launch) (D : va_G) (ad : Nat → Nat) (cI cJ : ClassId) (p0 p1 p2 p3 p4 : Nat × va_E) (h r1 f1 s1 : Nat) (R F S : Nat → Int32) (cn : Nat) (th : Int32)  : uI l yZ_entries0 wsZ_entries0 ({ frames := 0, cells := 0, slots := 0, locals := 0 } : Room) D ad [(cI, .int), (cJ, .long)] [.ref h] (wM p0 p1 p2 p3 p4 h r1 f1 s1 cI R F S cn th) (wM p0 p1 p2 p3 p4 h r1 f1 s1 cI R F S cn th) (nI cn) 0 0 := by
  unfold uI
  refine st_M (Qc := qI D [(cI, .int), (cJ, .long)] (wM p0 p1 p2 p3 p4 h r1 f1 s1 cI R F S cn th) (nI cn)) (mc := 0) (ms := 0) (cc := cZ_entries0) (maxL := 1) (ret := (some .int)) [.ref h] (by decide) rfl (Nat.le_of_ble_eq_true rfl) (fun p en s m below meth c A ls hx hb hr hlocks hml hts hown hA hS hP hK hD hX hl => ?_)
  have hown : s.vm.findClass RZ = some m.cls := hown
  have hl : lv_has ls 1 [(0, .ref h)] := hl
  have hu : ∀ w ∈ u_ws RZ TZ 5, w ∈ wsZ_entries0 := fun w h => List.mem_cons_of_mem _ (wsZ0_in w h)
  have hF22 := hts (.fieldLink RZ 22 "RankRowsModel" "many" "I") (by decide +kernel)
  refine lv_aload_n hx hb dZ_entries0_0 rfl (lv_at hl 0 rfl) ?_
  refine va_get (D := D) (ci := 1) (v := .int (nI cn)) (C := RZ) (T := TZ) (N := 5) hx hb hts hu hown hK hP 5 rfl rfl 3 (by decide) hF22 (fun _ h9 => h9) rfl dZ_entries0_1 ?_
  exact e_i hx hb hr hlocks hP hK hD hS dZ_entries0_4 (Nat.le_of_ble_eq_true rfl) (Nat.le_of_ble_eq_true rfl)
set_option maxHeartbeats 4000000 in
set_option maxRecDepth 100000 in
theorem j_tn (l : Launch) (D : va_G) (ad : Nat → Nat) (cI cJ : ClassId) (p0 p1 p2 p3 p4 : Nat × va_E) (h r1 f1 s1 : Nat) (R F S : Nat → Int32) (cn : Nat) (th : Int32)  : uI l yZ_thrown wsZ_thrown ({ frames := 0, cells := 0, slots := 0, locals := 0 } : Room) D ad [(cI, .int), (cJ, .long)] [.ref h] (wM p0 p1 p2 p3 p4 h r1 f1 s1 cI R F S cn th) (wM p0 p1 p2 p3 p4 h r1 f1 s1 cI R F S cn th) (th) 0 0 := by
  unfold uI
  refine st_M (Qc := qI D [(cI, .int), (cJ, .long)] (wM p0 p1 p2 p3 p4 h r1 f1 s1 cI R F S cn th) th) (mc := 0) (ms := 0) (cc := cZ_thrown) (maxL := 1) (ret := (some .int)) [.ref h] (by decide) rfl (Nat.le_of_ble_eq_true rfl) (fun p en s m below meth c A ls hx hb hr hlocks hml hts hown hA hS hP hK hD hX hl => ?_)
  have hown : s.vm.findClass RZ = some m.cls := hown
  have hl : lv_has ls 1 [(0, .ref h)] := hl
  have hu : ∀ w ∈ u_ws RZ TZ 5, w ∈ wsZ_thrown := fun w h => List.mem_cons_of_mem _ (wsZ0_in w h)
  have hF52 := hts (.fieldLink RZ 52 "RankRowsModel" "thrown" "I") (by decide +kernel)
  refine lv_aload_n hx hb dZ_thrown_0 rfl (lv_at hl 0 rfl) ?_
  refine va_get (D := D) (ci := 1) (v := .int th) (C := RZ) (T := TZ) (N := 5) hx hb hts hu hown hK hP 5 rfl rfl 4 (by decide) hF52 (fun _ h9 => h9) rfl dZ_thrown_1 ?_
  exact e_i hx hb hr hlocks hP hK hD hS dZ_thrown_4 (Nat.le_of_ble_eq_true rfl) (Nat.le_of_ble_eq_true rfl)
end
section
/-! The reference: behind0, before0, weigh0 -/
set_option maxHeartbeats 4000000 in
set_option maxRecDepth 100000 in
theorem j_behind (l : Launch) (D : va_G) (ad : Nat → Nat) (cI cJ : ClassId) (p0 p1 p2 p3 p4 : Nat × va_E) (h r1 f1 s1 : Nat) (R F S : Nat → Int32) (cn : Nat) (th : Int32) (ee n a b : Int32) (hl9 : l.stackTraces = false) (hR : rk_ok R cn) : uT l yZ_behind0 wsZ_behind0 ({ frames := 7, cells := 1, slots := 6, locals := 140 } : Room) D ad [(cI, .int), (cJ, .long)] [.ref h, .int ee, .int n, .int a, .int b] (wM p0 p1 p2 p3 p4 h r1 f1 s1 cI R F S cn th) (wM p0 p1 p2 p3 p4 h r1 f1 s1 cI (rk_in R cn (rk_pb R ee cn) n.toNatClampNeg) (rk_fl F cn n.toNatClampNeg a) (rk_fl S cn n.toNatClampNeg b) (cn + n.toNatClampNeg) th) (rk_kB ee n a b cn) (nI (cn + n.toNatClampNeg) - 1) := by
  unfold uT
  refine st_T (Qc := qT D [(cI, .int), (cJ, .long)] (wM p0 p1 p2 p3 p4 h r1 f1 s1 cI (rk_in R cn (rk_pb R ee cn) n.toNatClampNeg) (rk_fl F cn n.toNatClampNeg a) (rk_fl S cn n.toNatClampNeg b) (cn + n.toNatClampNeg) th) (rk_kB ee n a b cn) (nI (cn + n.toNatClampNeg) - 1)) (XC := xT D [(cI, .int), (cJ, .long)] (wM p0 p1 p2 p3 p4 h r1 f1 s1 cI R F S cn th) (rk_kB ee n a b cn)) (mc := 1) (ms := 6) (cc := cZ_behind0) (maxL := 7) (ret := (some .int)) [.ref h, .int ee, .int n, .int a, .int b] (by decide) rfl (Nat.le_of_ble_eq_true rfl) (fun p en s m below meth c A ls hex hx hb hr hlocks hml hts hown hA hS hP hK hD hX hl => ?_)
  have hown : s.vm.findClass RZ = some m.cls := hown
  have hl : lv_has ls 7 [(0, .ref h), (1, .int ee), (2, .int n), (3, .int a), (4, .int b)] := hl
  have hu : ∀ w ∈ u_ws RZ TZ 5, w ∈ wsZ_behind0 := fun w h => List.mem_cons_of_mem _ (wsZ0_in w h)
  have hF22 := hts (.fieldLink RZ 22 "RankRowsModel" "many" "I") (by decide +kernel)
  have SC : CallFix p m c cZ_behind0 7 s ([.ref h, .int ee, .int n, .int a, .int b] : List Value).toArray wsZ_behind0 RZ := ⟨hx, hb, hml, hown, hts⟩
  have hc := hR.1
  have hbad : rk_kB ee n a b cn = 1 → ∀ (H : Heap) (locs : List Loc), va_P D vwD (wM p0 p1 p2 p3 p4 h r1 f1 s1 cI R F S cn th) H → va_D A (wM p0 p1 p2 p3 p4 h r1 f1 s1 cI R F S cn th) → va_S A s.heap H locs → ∀ ls : Array Slot, lv_has ls 7 [(0, .ref h), (1, .int ee), (2, .int n), (3, .int a), (4, .int b)] → W p l en ({ frames := 7, cells := 1, slots := 6, locals := 140 } : Room) s m ([.ref h, .int ee, .int n, .int a, .int b] : List Value).toArray below meth c H locs 0 0 (vx_MQ below (qT D [(cI, .int), (cJ, .long)] (wM p0 p1 p2 p3 p4 h r1 f1 s1 cI (rk_in R cn (rk_pb R ee cn) n.toNatClampNeg) (rk_fl F cn n.toNatClampNeg a) (rk_fl S cn n.toNatClampNeg b) (cn + n.toNatClampNeg) th) (rk_kB ee n a b cn) (nI (cn + n.toNatClampNeg) - 1) A) (xT D [(cI, .int), (cJ, .long)] (wM p0 p1 p2 p3 p4 h r1 f1 s1 cI R F S cn th) (rk_kB ee n a b cn) A) ([.ref h, .int ee, .int n, .int a, .int b] : List Value).toArray s 1 6 A) (F0 m 31 ls []) := by
    intro hk1 H locs hP hD hS ls hl
    refine lv_iconst (v := 0) hx hb dZ_behind0_31 (by decide) ?_
    exact r_sx (rm := ({ frames := 6, cells := 1, slots := 6, locals := 100 } : Room)) (As := [.int 0]) (rest := []) (j_ch_bad l D ad cI cJ (wM p0 p1 p2 p3 p4 h r1 f1 s1 cI R F S cn th) hl9) SC (va_cwS 1 hts gZ_behind0_Z_check rfl rfl rfl (by decide +kernel) ⟨Nat.le_of_ble_eq_true rfl, Nat.le_of_ble_eq_true rfl⟩) hP hK hD hS hA hX rfl hl.1 rfl (Nat.le_of_ble_eq_true rfl) dZ_behind0_32 ⟨Nat.le_of_ble_eq_true rfl, Nat.le_of_ble_eq_true rfl⟩ hex hlocks hk1.symm (Nat.le_of_ble_eq_true rfl) (Nat.le_of_ble_eq_true rfl)
  have hput : ((¬ n < 1 ∧ n ≤ 200) ∧ rk_W a ∧ rk_W b) → (ee = -1 ∨ rk_E ee cn) → cn + n.toNatClampNeg ≤ 4000 → ∀ x : Int32, x = nI (rk_pb R ee cn) → ∀ (H : Heap) (locs : List Loc), va_P D vwD (wM p0 p1 p2 p3 p4 h r1 f1 s1 cI R F S cn th) H → va_D A (wM p0 p1 p2 p3 p4 h r1 f1 s1 cI R F S cn th) → va_S A s.heap H locs → ∀ ls : Array Slot, lv_has ls 7 [(0, .ref h), (1, .int ee), (2, .int n), (3, .int a), (4, .int b)] → W p l en ({ frames := 7, cells := 1, slots := 6, locals := 140 } : Room) s m ([.ref h, .int ee, .int n, .int a, .int b] : List Value).toArray below meth c H locs 0 0 (vx_MQ below (qT D [(cI, .int), (cJ, .long)] (wM p0 p1 p2 p3 p4 h r1 f1 s1 cI (rk_in R cn (rk_pb R ee cn) n.toNatClampNeg) (rk_fl F cn n.toNatClampNeg a) (rk_fl S cn n.toNatClampNeg b) (cn + n.toNatClampNeg) th) (rk_kB ee n a b cn) (nI (cn + n.toNatClampNeg) - 1) A) (xT D [(cI, .int), (cJ, .long)] (wM p0 p1 p2 p3 p4 h r1 f1 s1 cI R F S cn th) (rk_kB ee n a b cn) A) ([.ref h, .int ee, .int n, .int a, .int b] : List Value).toArray s 1 6 A) (F0 m 80 ls [.int x]) := by
    intro hg he hm x hxe H locs hP hD hS ls hl
    subst hxe
    obtain ⟨hk1, hk2, hn⟩ := rk_num hg.1.1 hg.1.2
    have hpb := rk_pb_le hR he
    refine lv_istore (lv' := [(5, .int (nI (rk_pb R ee cn))), (0, .ref h), (1, .int ee), (2, .int n), (3, .int a), (4, .int b)]) hx hb dZ_behind0_80 hl (by decide) rfl (fun ls hl => ?_)
    refine lv_iconst (v := 0) hx hb dZ_behind0_82 (by decide) ?_
    refine lv_istore (lv' := [(6, .int 0), (5, .int (nI (rk_pb R ee cn))), (0, .ref h), (1, .int ee), (2, .int n), (3, .int a), (4, .int b)]) hx hb dZ_behind0_83 hl (by decide) rfl (fun ls hl => ?_)
    have loop : ∀ (d i : Nat), n.toNatClampNeg - i < d → i ≤ n.toNatClampNeg → ∀ (H : Heap) (locs : List Loc), va_P D vwD (wM p0 p1 p2 p3 p4 h r1 f1 s1 cI (rk_in R cn (rk_pb R ee cn) i) (rk_fl F cn i a) (rk_fl S cn i b) (cn + i) th) H → va_D A (wM p0 p1 p2 p3 p4 h r1 f1 s1 cI (rk_in R cn (rk_pb R ee cn) i) (rk_fl F cn i a) (rk_fl S cn i b) (cn + i) th) → va_S A s.heap H locs → ∀ ls : Array Slot, lv_has ls 7 [(6, .int (nI i)), (5, .int (nI (rk_pb R ee cn))), (0, .ref h), (1, .int ee), (2, .int n), (3, .int a), (4, .int b)] → W p l en ({ frames := 7, cells := 1, slots := 6, locals := 140 } : Room) s m ([.ref h, .int ee, .int n, .int a, .int b] : List Value).toArray below meth c H locs 0 0 (vx_MQ below (qT D [(cI, .int), (cJ, .long)] (wM p0 p1 p2 p3 p4 h r1 f1 s1 cI (rk_in R cn (rk_pb R ee cn) n.toNatClampNeg) (rk_fl F cn n.toNatClampNeg a) (rk_fl S cn n.toNatClampNeg b) (cn + n.toNatClampNeg) th) (rk_kB ee n a b cn) (nI (cn + n.toNatClampNeg) - 1) A) (xT D [(cI, .int), (cJ, .long)] (wM p0 p1 p2 p3 p4 h r1 f1 s1 cI R F S cn th) (rk_kB ee n a b cn) A) ([.ref h, .int ee, .int n, .int a, .int b] : List Value).toArray s 1 6 A) (F0 m 85 ls []) := by
      intro d
      induction d with
      | zero => intro i hd; exact absurd hd (Nat.not_lt_zero _)
      | succ d ih =>
        intro i hd hik H locs hP hD hS ls hl
        refine lv_iload hx hb dZ_behind0_85 (lv_at hl 0 rfl) ?_
        refine lv_iload_n hx hb dZ_behind0_87 rfl (lv_at hl 4 rfl) ?_
        refine lv_icmp_ge (tgt := 109) hx hb dZ_behind0_88 (by decide) (fun h1 => ?_) (fun h1 => ?_)
        · have h1 : nI n.toNatClampNeg ≤ nI i := by rw [← hn]; exact h1
          have hki : i = n.toNatClampNeg := by have := (nI_leI (by omega) (by omega)).mp h1; omega
          rw [hki] at hP hD
          refine lv_aload_n hx hb dZ_behind0_109 rfl (lv_at hl 2 rfl) ?_
          refine va_get (D := D) (ci := 1) (v := .int (nI (cn + n.toNatClampNeg))) (C := RZ) (T := TZ) (N := 5) hx hb hts hu hown hK hP 5 rfl rfl 3 (by decide) hF22 (fun _ h9 => h9) rfl dZ_behind0_110 ?_
          refine lv_iconst (v := 1) hx hb dZ_behind0_113 (by decide) ?_
          refine lv_isub hx hb dZ_behind0_114 ?_
          exact e_t hx hb hr hlocks (rk_kB_0 hg he hm) hP hK hD hS dZ_behind0_115 (Nat.le_of_ble_eq_true rfl) (Nat.le_of_ble_eq_true rfl)
        · have hki : i < n.toNatClampNeg := Nat.lt_of_not_le (fun z9 => h1 (by rw [hn]; exact (nI_leI (by omega) (by omega)).mpr z9))
          refine lv_aload_n hx hb dZ_behind0_91 rfl (lv_at hl 2 rfl) ?_
          refine lv_iload hx hb dZ_behind0_92 (lv_at hl 1 rfl) ?_
          refine lv_iload hx hb dZ_behind0_94 (lv_at hl 0 rfl) ?_
          refine lv_iadd hx hb dZ_behind0_96 ?_
          refine q_top (nI ((rk_pb R ee cn) + i)) (nI_add _ _) ?_
          refine lv_iload_n hx hb dZ_behind0_97 rfl (lv_at hl 5 rfl) ?_
          refine lv_iload hx hb dZ_behind0_98 (lv_at hl 6 rfl) ?_
          refine r_v (rm := ({ frames := 0, cells := 0, slots := 0, locals := 0 } : Room)) (As := [.int (nI ((rk_pb R ee cn) + i)), .int a, .int b]) (rest := []) (j_op l D ad cI cJ p0 p1 p2 p3 p4 h r1 f1 s1 (rk_in R cn (rk_pb R ee cn) i) (rk_fl F cn i a) (rk_fl S cn i b) (cn + i) th (nI (rk_pb R ee cn + i)) a b (rk_pb R ee cn + i) rfl (by omega) (by omega)) SC (cwV 3 hts gZ_behind0_Z_open rfl rfl rfl (by decide +kernel) ⟨Nat.le_of_ble_eq_true rfl, Nat.le_of_ble_eq_true rfl⟩) hP hK hD hS hA hX 5 rfl rfl rfl hl.1 rfl (Nat.le_of_ble_eq_true rfl) dZ_behind0_100 ⟨Nat.le_of_ble_eq_true rfl, Nat.le_of_ble_eq_true rfl⟩ (fun H locs hP hD hS => ?_)
          have hP : va_P D vwD (wM p0 p1 p2 p3 p4 h r1 f1 s1 cI (rk_in (rk_in R cn (rk_pb R ee cn) i) (cn + i) (rk_pb R ee cn + i) 1) (rk_fl (rk_fl F cn i a) (cn + i) 1 a) (rk_fl (rk_fl S cn i b) (cn + i) 1 b) (cn + i + 1) th) H := hP
          have hD : va_D A (wM p0 p1 p2 p3 p4 h r1 f1 s1 cI (rk_in (rk_in R cn (rk_pb R ee cn) i) (cn + i) (rk_pb R ee cn + i) 1) (rk_fl (rk_fl F cn i a) (cn + i) 1 a) (rk_fl (rk_fl S cn i b) (cn + i) 1 b) (cn + i + 1) th) := hD
          have hs := rk_in_s R (c := cn) i hpb
          rw [hs, rk_fl_t, rk_fl_t] at hP hD
          have hP : va_P D vwD (wM p0 p1 p2 p3 p4 h r1 f1 s1 cI (rk_in R cn (rk_pb R ee cn) (i + 1)) (rk_fl F cn (i + 1) a) (rk_fl S cn (i + 1) b) (cn + (i + 1)) th) H := hP
          have hD : va_D A (wM p0 p1 p2 p3 p4 h r1 f1 s1 cI (rk_in R cn (rk_pb R ee cn) (i + 1)) (rk_fl F cn (i + 1) a) (rk_fl S cn (i + 1) b) (cn + (i + 1)) th) := hD
          refine lv_iinc (k := 0) (v := nI (i + 1)) (lv' := [(6, .int (nI (i + 1))), (5, .int (nI (rk_pb R ee cn))), (0, .ref h), (1, .int ee), (2, .int n), (3, .int a), (4, .int b)]) hx hb dZ_behind0_103 hl rfl (by rw [(by decide : Int32.ofInt 1 = 1)]; exact nI_1 _) (by decide) rfl (fun ls hl => ?_)
          refine lv_goto (tgt := 85) hx hb dZ_behind0_106 (by decide) ?_
          exact ih (i + 1) (by omega) (by omega) H locs hP hD hS ls hl
    have hP : va_P D vwD (wM p0 p1 p2 p3 p4 h r1 f1 s1 cI (rk_in R cn (rk_pb R ee cn) 0) (rk_fl F cn 0 a) (rk_fl S cn 0 b) (cn + 0) th) H := by rw [rk_in_0, rk_fl_0, rk_fl_0]; exact hP
    have hD : va_D A (wM p0 p1 p2 p3 p4 h r1 f1 s1 cI (rk_in R cn (rk_pb R ee cn) 0) (rk_fl F cn 0 a) (rk_fl S cn 0 b) (cn + 0) th) := by rw [rk_in_0, rk_fl_0, rk_fl_0]; exact hD
    exact loop (n.toNatClampNeg + 1) 0 (by omega) (Nat.zero_le _) H locs hP hD hS ls hl
  have hgo : ((¬ n < 1 ∧ n ≤ 200) ∧ rk_W a ∧ rk_W b) → (ee = -1 ∨ rk_E ee cn) → ∀ (H : Heap) (locs : List Loc), va_P D vwD (wM p0 p1 p2 p3 p4 h r1 f1 s1 cI R F S cn th) H → va_D A (wM p0 p1 p2 p3 p4 h r1 f1 s1 cI R F S cn th) → va_S A s.heap H locs → ∀ ls : Array Slot, lv_has ls 7 [(0, .ref h), (1, .int ee), (2, .int n), (3, .int a), (4, .int b)] → W p l en ({ frames := 7, cells := 1, slots := 6, locals := 140 } : Room) s m ([.ref h, .int ee, .int n, .int a, .int b] : List Value).toArray below meth c H locs 0 0 (vx_MQ below (qT D [(cI, .int), (cJ, .long)] (wM p0 p1 p2 p3 p4 h r1 f1 s1 cI (rk_in R cn (rk_pb R ee cn) n.toNatClampNeg) (rk_fl F cn n.toNatClampNeg a) (rk_fl S cn n.toNatClampNeg b) (cn + n.toNatClampNeg) th) (rk_kB ee n a b cn) (nI (cn + n.toNatClampNeg) - 1) A) (xT D [(cI, .int), (cJ, .long)] (wM p0 p1 p2 p3 p4 h r1 f1 s1 cI R F S cn th) (rk_kB ee n a b cn) A) ([.ref h, .int ee, .int n, .int a, .int b] : List Value).toArray s 1 6 A) (F0 m 45 ls []) := by
    intro hg he H locs hP hD hS ls hl
    obtain ⟨hk1, hk2, hn⟩ := rk_num hg.1.1 hg.1.2
    refine lv_aload_n hx hb dZ_behind0_45 rfl (lv_at hl 0 rfl) ?_
    refine va_get (D := D) (ci := 1) (v := .int (nI cn)) (C := RZ) (T := TZ) (N := 5) hx hb hts hu hown hK hP 5 rfl rfl 3 (by decide) hF22 (fun _ h9 => h9) rfl dZ_behind0_46 ?_
    refine lv_iload_n hx hb dZ_behind0_49 rfl (lv_at hl 2 rfl) ?_
    refine lv_iadd hx hb dZ_behind0_50 ?_
    refine q_top (nI (cn + n.toNatClampNeg)) ((congrArg (fun z9 => nI cn + z9) hn).trans (nI_add _ _)) ?_
    refine lv_sipush (v := 4000) hx hb dZ_behind0_51 (by decide) ?_
    refine lv_icmp_le (tgt := 65) hx hb dZ_behind0_54 (by decide) (fun h5 => ?_) (fun h5 => ?_)
    · have hm : cn + n.toNatClampNeg ≤ 4000 := by rw [rk_4000] at h5; exact (nI_leI (by omega) (by omega)).mp h5
      refine lv_iload_n hx hb dZ_behind0_65 rfl (lv_at hl 1 rfl) ?_
      refine lv_if_ge (tgt := 73) hx hb dZ_behind0_66 (by decide) (fun h6 => ?_) (fun h6 => ?_)
      · have he2 : rk_E ee cn := he.resolve_left (rk_ne_m1 (rk_nn h6))
        refine lv_aload_n hx hb dZ_behind0_73 rfl (lv_at hl 0 rfl) ?_
        refine lv_iload_n hx hb dZ_behind0_74 rfl (lv_at hl 1 rfl) ?_
        refine r_i (rm := ({ frames := 0, cells := 0, slots := 0, locals := 0 } : Room)) (As := [.int ee]) (rest := []) (j_ir l D ad cI cJ p0 p1 p2 p3 p4 h r1 f1 s1 R F S cn th ee hc (rk_pl_E hR he2)) SC (cwV 1 hts gZ_behind0_Z_inRow rfl rfl rfl (by decide +kernel) ⟨Nat.le_of_ble_eq_true rfl, Nat.le_of_ble_eq_true rfl⟩) hP hK hD hS hA hX 5 rfl rfl rfl hl.1 rfl (Nat.le_of_ble_eq_true rfl) dZ_behind0_75 ⟨Nat.le_of_ble_eq_true rfl, Nat.le_of_ble_eq_true rfl⟩ (fun H locs hP hD hS => ?_)
        have hP : va_P D vwD (wM p0 p1 p2 p3 p4 h r1 f1 s1 cI R F S cn th) H := hP
        have hD : va_D A (wM p0 p1 p2 p3 p4 h r1 f1 s1 cI R F S cn th) := hD
        refine lv_iconst (v := 1) hx hb dZ_behind0_78 (by decide) ?_
        refine lv_iadd hx hb dZ_behind0_79 ?_
        refine q_top (nI ((rk_pl R ee cn) + 1)) (nI_1 _) ?_
        exact hput hg he hm _ (by rw [rk_pb_n (rk_ne_m1 he2.1)]) H locs hP hD hS ls hl
      · have hem : ee = -1 := he.resolve_right (fun z9 => h6 (rk_le z9.1))
        refine lv_iconst (v := 0) hx hb dZ_behind0_69 (by decide) ?_
        refine lv_goto (tgt := 80) hx hb dZ_behind0_70 (by decide) ?_
        exact hput hg he hm _ (by rw [hem, rk_pb_m, nI_0]) H locs hP hD hS ls hl
    · exact vx_throw0 (own := RZ) (cls := "java/lang/IllegalStateException") (names := ["java/lang/RuntimeException", "java/lang/Exception"]) hx hb hl9 hown (by decide +kernel) (by decide +kernel) (hts (.classLink RZ 41 "java/lang/IllegalStateException") (by decide +kernel)) (hts (.initialized "java/lang/IllegalStateException") (by decide +kernel)) (vx_hat (L := vx_at0 RZ 43 "java/lang/IllegalStateException" ["java/lang/RuntimeException", "java/lang/Exception"]) (B := [.castable "java/lang/IllegalStateException" "java/lang/IllegalStateException", .declares ⟨"java/lang/RuntimeException", "<init>", "()V"⟩, .declares ⟨"java/lang/Exception", "<init>", "()V"⟩, .declares ⟨"java/lang/Throwable", "<init>", "()V"⟩]) (fun w hw => hts w (List.mem_cons_of_mem _ (wsR_43 w hw))) (by decide +kernel) (vx_c (va_Nw.use rfl (hX.2.1 _ (List.mem_of_getElem? (i := 2) rfl))) (vx_c (va_Nw.use rfl (hX.2.2.1 _ (List.mem_of_getElem? (i := 3) rfl))) (vx_c (va_Nw.use rfl (hX.2.2.1 _ (List.mem_of_getElem? (i := 4) rfl))) (vx_c (va_Nw.use rfl (hX.2.2.1 _ (List.mem_of_getElem? (i := 5) rfl))) (vx_n)))))) (by decide +kernel) hX.1.1 hX.1.2 hS (hl.1.trans hml.symm) dZ_behind0_57 dZ_behind0_60 dZ_behind0_61 dZ_behind0_64 (fun x h => (hex x h).elim) (Nat.le_of_ble_eq_true rfl) (Nat.le_of_ble_eq_true rfl) (Nat.le_of_ble_eq_true rfl) (Nat.le_of_ble_eq_true rfl) hlocks (r_t (rk_kB_3 hg he (fun z9 => h5 (by rw [rk_4000]; exact (nI_leI (by omega) (by omega)).mpr z9))) (by decide) (by decide +kernel) hP hK hD hS) hS.2.2 (Nat.le_of_ble_eq_true rfl) (Nat.le_of_ble_eq_true rfl)
  refine lv_iload_n hx hb dZ_behind0_0 rfl (lv_at hl 2 rfl) ?_
  refine lv_iconst (v := 1) hx hb dZ_behind0_1 (by decide) ?_
  refine lv_icmp_lt (tgt := 31) hx hb dZ_behind0_2 (by decide) (fun h1 => ?_) (fun h1 => ?_)
  · exact hbad (rk_kB_1 (fun q => q.1.1 h1)) s.heap [] hP hD hS ls hl
  · refine lv_iload_n hx hb dZ_behind0_5 rfl (lv_at hl 2 rfl) ?_
    refine lv_sipush (v := 200) hx hb dZ_behind0_6 (by decide) ?_
    refine lv_icmp_gt (tgt := 31) hx hb dZ_behind0_9 (by decide) (fun h2 => ?_) (fun h2 => ?_)
    · exact hbad (rk_kB_1 (fun q => absurd h2 (Int32.not_lt.mpr q.1.2))) s.heap [] hP hD hS ls hl
    · have h2 : n ≤ 200 := Int32.not_lt.mp h2
      refine lv_iload_n hx hb dZ_behind0_12 rfl (lv_at hl 3 rfl) ?_
      by_cases ha : rk_W a
      · refine r_si (rm := ({ frames := 0, cells := 0, slots := 0, locals := 0 } : Room)) (As := [.int a]) (rest := []) (j_iw_1 l D ad cI cJ (wM p0 p1 p2 p3 p4 h r1 f1 s1 cI R F S cn th) a ha) SC (va_cwS 1 hts gZ_behind0_Z_isWeight rfl rfl rfl (by decide +kernel) ⟨Nat.le_of_ble_eq_true rfl, Nat.le_of_ble_eq_true rfl⟩) hP hK hD hS hA hX rfl hl.1 rfl (Nat.le_of_ble_eq_true rfl) dZ_behind0_13 ⟨Nat.le_of_ble_eq_true rfl, Nat.le_of_ble_eq_true rfl⟩ (fun H locs hP hD hS => ?_)
        have hP : va_P D vwD (wM p0 p1 p2 p3 p4 h r1 f1 s1 cI R F S cn th) H := hP
        have hD : va_D A (wM p0 p1 p2 p3 p4 h r1 f1 s1 cI R F S cn th) := hD
        refine lv_if_eq (tgt := 31) hx hb dZ_behind0_16 (by decide) (fun h9 => absurd h9 ((by decide : ¬ (1 : Int32) = 0))) (fun _ => ?_)
        refine lv_iload hx hb dZ_behind0_19 (lv_at hl 4 rfl) ?_
        by_cases hb0 : rk_W b
        · refine r_si (rm := ({ frames := 0, cells := 0, slots := 0, locals := 0 } : Room)) (As := [.int b]) (rest := []) (j_iw_1 l D ad cI cJ (wM p0 p1 p2 p3 p4 h r1 f1 s1 cI R F S cn th) b hb0) SC (va_cwS 1 hts gZ_behind0_Z_isWeight rfl rfl rfl (by decide +kernel) ⟨Nat.le_of_ble_eq_true rfl, Nat.le_of_ble_eq_true rfl⟩) hP hK hD hS hA hX rfl hl.1 rfl (Nat.le_of_ble_eq_true rfl) dZ_behind0_21 ⟨Nat.le_of_ble_eq_true rfl, Nat.le_of_ble_eq_true rfl⟩ (fun H locs hP hD hS => ?_)
          have hP : va_P D vwD (wM p0 p1 p2 p3 p4 h r1 f1 s1 cI R F S cn th) H := hP
          have hD : va_D A (wM p0 p1 p2 p3 p4 h r1 f1 s1 cI R F S cn th) := hD
          refine lv_if_eq (tgt := 31) hx hb dZ_behind0_24 (by decide) (fun h9 => absurd h9 ((by decide : ¬ (1 : Int32) = 0))) (fun _ => ?_)
          refine lv_iconst (v := 1) hx hb dZ_behind0_27 (by decide) ?_
          refine lv_goto (tgt := 32) hx hb dZ_behind0_28 (by decide) ?_
          have hg : ((¬ n < 1 ∧ n ≤ 200) ∧ rk_W a ∧ rk_W b) := ⟨⟨h1, h2⟩, ha, hb0⟩
          refine r_sv (rm := ({ frames := 0, cells := 0, slots := 0, locals := 0 } : Room)) (As := [.int 1]) (rest := []) (j_ch_ok l D ad cI cJ (wM p0 p1 p2 p3 p4 h r1 f1 s1 cI R F S cn th)) SC (va_cwS 1 hts gZ_behind0_Z_check rfl rfl rfl (by decide +kernel) ⟨Nat.le_of_ble_eq_true rfl, Nat.le_of_ble_eq_true rfl⟩) hP hK hD hS hA hX rfl hl.1 rfl (Nat.le_of_ble_eq_true rfl) dZ_behind0_32 ⟨Nat.le_of_ble_eq_true rfl, Nat.le_of_ble_eq_true rfl⟩ (fun H locs hP hD hS => ?_)
          have hP : va_P D vwD (wM p0 p1 p2 p3 p4 h r1 f1 s1 cI R F S cn th) H := hP
          have hD : va_D A (wM p0 p1 p2 p3 p4 h r1 f1 s1 cI R F S cn th) := hD
          refine lv_iload_n hx hb dZ_behind0_35 rfl (lv_at hl 1 rfl) ?_
          refine lv_iconst (v := (-1)) hx hb dZ_behind0_36 (by decide) ?_
          refine lv_icmp_eq (tgt := 45) hx hb dZ_behind0_37 (by decide) (fun h3 => ?_) (fun h3 => ?_)
          · exact hgo hg (Or.inl h3) H locs hP hD hS ls hl
          · refine lv_aload_n hx hb dZ_behind0_40 rfl (lv_at hl 0 rfl) ?_
            refine lv_iload_n hx hb dZ_behind0_41 rfl (lv_at hl 1 rfl) ?_
            by_cases he : rk_E ee cn
            · refine r_v (rm := ({ frames := 0, cells := 0, slots := 0, locals := 0 } : Room)) (As := [.int ee]) (rest := []) (j_th_ok l D ad cI cJ p0 p1 p2 p3 p4 h r1 f1 s1 R F S cn th ee he) SC (cwV 1 hts gZ_behind0_Z_there rfl rfl rfl (by decide +kernel) ⟨Nat.le_of_ble_eq_true rfl, Nat.le_of_ble_eq_true rfl⟩) hP hK hD hS hA hX 5 rfl rfl rfl hl.1 rfl (Nat.le_of_ble_eq_true rfl) dZ_behind0_42 ⟨Nat.le_of_ble_eq_true rfl, Nat.le_of_ble_eq_true rfl⟩ (fun H locs hP hD hS => ?_)
              have hP : va_P D vwD (wM p0 p1 p2 p3 p4 h r1 f1 s1 cI R F S cn th) H := hP
              have hD : va_D A (wM p0 p1 p2 p3 p4 h r1 f1 s1 cI R F S cn th) := hD
              exact hgo hg (Or.inr he) H locs hP hD hS ls hl
            · exact r_x (rm := ({ frames := 6, cells := 1, slots := 6, locals := 100 } : Room)) (As := [.int ee]) (rest := []) (j_th_bad l D ad cI cJ p0 p1 p2 p3 p4 h r1 f1 s1 R F S cn th ee hl9 he) SC (cwV 1 hts gZ_behind0_Z_there rfl rfl rfl (by decide +kernel) ⟨Nat.le_of_ble_eq_true rfl, Nat.le_of_ble_eq_true rfl⟩) hP hK hD hS hA hX 5 rfl rfl rfl hl.1 rfl (Nat.le_of_ble_eq_true rfl) dZ_behind0_42 ⟨Nat.le_of_ble_eq_true rfl, Nat.le_of_ble_eq_true rfl⟩ hex hlocks (rk_kB_2 hg (fun q => q.elim h3 he)).symm (Nat.le_of_ble_eq_true rfl) (Nat.le_of_ble_eq_true rfl)
        · refine r_si (rm := ({ frames := 0, cells := 0, slots := 0, locals := 0 } : Room)) (As := [.int b]) (rest := []) (j_iw_0 l D ad cI cJ (wM p0 p1 p2 p3 p4 h r1 f1 s1 cI R F S cn th) b hb0) SC (va_cwS 1 hts gZ_behind0_Z_isWeight rfl rfl rfl (by decide +kernel) ⟨Nat.le_of_ble_eq_true rfl, Nat.le_of_ble_eq_true rfl⟩) hP hK hD hS hA hX rfl hl.1 rfl (Nat.le_of_ble_eq_true rfl) dZ_behind0_21 ⟨Nat.le_of_ble_eq_true rfl, Nat.le_of_ble_eq_true rfl⟩ (fun H locs hP hD hS => ?_)
          have hP : va_P D vwD (wM p0 p1 p2 p3 p4 h r1 f1 s1 cI R F S cn th) H := hP
          have hD : va_D A (wM p0 p1 p2 p3 p4 h r1 f1 s1 cI R F S cn th) := hD
          refine lv_if_eq (tgt := 31) hx hb dZ_behind0_24 (by decide) (fun _ => ?_) (fun h9 => absurd (rfl) h9)
          exact hbad (rk_kB_1 (fun q => hb0 q.2.2)) H locs hP hD hS ls hl
      · refine r_si (rm := ({ frames := 0, cells := 0, slots := 0, locals := 0 } : Room)) (As := [.int a]) (rest := []) (j_iw_0 l D ad cI cJ (wM p0 p1 p2 p3 p4 h r1 f1 s1 cI R F S cn th) a ha) SC (va_cwS 1 hts gZ_behind0_Z_isWeight rfl rfl rfl (by decide +kernel) ⟨Nat.le_of_ble_eq_true rfl, Nat.le_of_ble_eq_true rfl⟩) hP hK hD hS hA hX rfl hl.1 rfl (Nat.le_of_ble_eq_true rfl) dZ_behind0_13 ⟨Nat.le_of_ble_eq_true rfl, Nat.le_of_ble_eq_true rfl⟩ (fun H locs hP hD hS => ?_)
        have hP : va_P D vwD (wM p0 p1 p2 p3 p4 h r1 f1 s1 cI R F S cn th) H := hP
        have hD : va_D A (wM p0 p1 p2 p3 p4 h r1 f1 s1 cI R F S cn th) := hD
        refine lv_if_eq (tgt := 31) hx hb dZ_behind0_16 (by decide) (fun _ => ?_) (fun h9 => absurd (rfl) h9)
        exact hbad (rk_kB_1 (fun q => ha q.2.1)) H locs hP hD hS ls hl
set_option maxHeartbeats 4000000 in
set_option maxRecDepth 100000 in
theorem j_before (l : Launch) (D : va_G) (ad : Nat → Nat) (cI cJ : ClassId) (p0 p1 p2 p3 p4 : Nat × va_E) (h r1 f1 s1 : Nat) (R F S : Nat → Int32) (cn : Nat) (th : Int32) (ee a b : Int32) (hl9 : l.stackTraces = false) (hR : rk_ok R cn) : uT l yZ_before0 wsZ_before0 ({ frames := 7, cells := 1, slots := 6, locals := 140 } : Room) D ad [(cI, .int), (cJ, .long)] [.ref h, .int ee, .int a, .int b] (wM p0 p1 p2 p3 p4 h r1 f1 s1 cI R F S cn th) (wM p0 p1 p2 p3 p4 h r1 f1 s1 cI (rk_in R cn (rk_pl R ee cn) 1) (rk_fl F cn 1 a) (rk_fl S cn 1 b) (cn + 1) th) (rk_kF ee a b cn) (nI (cn + 1) - 1) := by
  unfold uT
  refine st_T (Qc := qT D [(cI, .int), (cJ, .long)] (wM p0 p1 p2 p3 p4 h r1 f1 s1 cI (rk_in R cn (rk_pl R ee cn) 1) (rk_fl F cn 1 a) (rk_fl S cn 1 b) (cn + 1) th) (rk_kF ee a b cn) (nI (cn + 1) - 1)) (XC := xT D [(cI, .int), (cJ, .long)] (wM p0 p1 p2 p3 p4 h r1 f1 s1 cI R F S cn th) (rk_kF ee a b cn)) (mc := 1) (ms := 6) (cc := cZ_before0) (maxL := 4) (ret := (some .int)) [.ref h, .int ee, .int a, .int b] (by decide) rfl (Nat.le_of_ble_eq_true rfl) (fun p en s m below meth c A ls hex hx hb hr hlocks hml hts hown hA hS hP hK hD hX hl => ?_)
  have hown : s.vm.findClass RZ = some m.cls := hown
  have hl : lv_has ls 4 [(0, .ref h), (1, .int ee), (2, .int a), (3, .int b)] := hl
  have hu : ∀ w ∈ u_ws RZ TZ 5, w ∈ wsZ_before0 := fun w h => List.mem_cons_of_mem _ (wsZ0_in w h)
  have hF22 := hts (.fieldLink RZ 22 "RankRowsModel" "many" "I") (by decide +kernel)
  have SC : CallFix p m c cZ_before0 4 s ([.ref h, .int ee, .int a, .int b] : List Value).toArray wsZ_before0 RZ := ⟨hx, hb, hml, hown, hts⟩
  have hc := hR.1
  have hbad : rk_kF ee a b cn = 1 → ∀ (H : Heap) (locs : List Loc), va_P D vwD (wM p0 p1 p2 p3 p4 h r1 f1 s1 cI R F S cn th) H → va_D A (wM p0 p1 p2 p3 p4 h r1 f1 s1 cI R F S cn th) → va_S A s.heap H locs → ∀ ls : Array Slot, lv_has ls 4 [(0, .ref h), (1, .int ee), (2, .int a), (3, .int b)] → W p l en ({ frames := 7, cells := 1, slots := 6, locals := 140 } : Room) s m ([.ref h, .int ee, .int a, .int b] : List Value).toArray below meth c H locs 0 0 (vx_MQ below (qT D [(cI, .int), (cJ, .long)] (wM p0 p1 p2 p3 p4 h r1 f1 s1 cI (rk_in R cn (rk_pl R ee cn) 1) (rk_fl F cn 1 a) (rk_fl S cn 1 b) (cn + 1) th) (rk_kF ee a b cn) (nI (cn + 1) - 1) A) (xT D [(cI, .int), (cJ, .long)] (wM p0 p1 p2 p3 p4 h r1 f1 s1 cI R F S cn th) (rk_kF ee a b cn) A) ([.ref h, .int ee, .int a, .int b] : List Value).toArray s 1 6 A) (F0 m 18 ls []) := by
    intro hk1 H locs hP hD hS ls hl
    refine lv_iconst (v := 0) hx hb dZ_before0_18 (by decide) ?_
    exact r_sx (rm := ({ frames := 6, cells := 1, slots := 6, locals := 100 } : Room)) (As := [.int 0]) (rest := []) (j_ch_bad l D ad cI cJ (wM p0 p1 p2 p3 p4 h r1 f1 s1 cI R F S cn th) hl9) SC (va_cwS 1 hts gZ_before0_Z_check rfl rfl rfl (by decide +kernel) ⟨Nat.le_of_ble_eq_true rfl, Nat.le_of_ble_eq_true rfl⟩) hP hK hD hS hA hX rfl hl.1 rfl (Nat.le_of_ble_eq_true rfl) dZ_before0_19 ⟨Nat.le_of_ble_eq_true rfl, Nat.le_of_ble_eq_true rfl⟩ hex hlocks hk1.symm (Nat.le_of_ble_eq_true rfl) (Nat.le_of_ble_eq_true rfl)
  refine lv_iload_n hx hb dZ_before0_0 rfl (lv_at hl 2 rfl) ?_
  by_cases ha : rk_W a
  · refine r_si (rm := ({ frames := 0, cells := 0, slots := 0, locals := 0 } : Room)) (As := [.int a]) (rest := []) (j_iw_1 l D ad cI cJ (wM p0 p1 p2 p3 p4 h r1 f1 s1 cI R F S cn th) a ha) SC (va_cwS 1 hts gZ_before0_Z_isWeight rfl rfl rfl (by decide +kernel) ⟨Nat.le_of_ble_eq_true rfl, Nat.le_of_ble_eq_true rfl⟩) hP hK hD hS hA hX rfl hl.1 rfl (Nat.le_of_ble_eq_true rfl) dZ_before0_1 ⟨Nat.le_of_ble_eq_true rfl, Nat.le_of_ble_eq_true rfl⟩ (fun H locs hP hD hS => ?_)
    have hP : va_P D vwD (wM p0 p1 p2 p3 p4 h r1 f1 s1 cI R F S cn th) H := hP
    have hD : va_D A (wM p0 p1 p2 p3 p4 h r1 f1 s1 cI R F S cn th) := hD
    refine lv_if_eq (tgt := 18) hx hb dZ_before0_4 (by decide) (fun h9 => absurd h9 ((by decide : ¬ (1 : Int32) = 0))) (fun _ => ?_)
    refine lv_iload_n hx hb dZ_before0_7 rfl (lv_at hl 3 rfl) ?_
    by_cases hb0 : rk_W b
    · refine r_si (rm := ({ frames := 0, cells := 0, slots := 0, locals := 0 } : Room)) (As := [.int b]) (rest := []) (j_iw_1 l D ad cI cJ (wM p0 p1 p2 p3 p4 h r1 f1 s1 cI R F S cn th) b hb0) SC (va_cwS 1 hts gZ_before0_Z_isWeight rfl rfl rfl (by decide +kernel) ⟨Nat.le_of_ble_eq_true rfl, Nat.le_of_ble_eq_true rfl⟩) hP hK hD hS hA hX rfl hl.1 rfl (Nat.le_of_ble_eq_true rfl) dZ_before0_8 ⟨Nat.le_of_ble_eq_true rfl, Nat.le_of_ble_eq_true rfl⟩ (fun H locs hP hD hS => ?_)
      have hP : va_P D vwD (wM p0 p1 p2 p3 p4 h r1 f1 s1 cI R F S cn th) H := hP
      have hD : va_D A (wM p0 p1 p2 p3 p4 h r1 f1 s1 cI R F S cn th) := hD
      refine lv_if_eq (tgt := 18) hx hb dZ_before0_11 (by decide) (fun h9 => absurd h9 ((by decide : ¬ (1 : Int32) = 0))) (fun _ => ?_)
      refine lv_iconst (v := 1) hx hb dZ_before0_14 (by decide) ?_
      refine lv_goto (tgt := 19) hx hb dZ_before0_15 (by decide) ?_
      refine r_sv (rm := ({ frames := 0, cells := 0, slots := 0, locals := 0 } : Room)) (As := [.int 1]) (rest := []) (j_ch_ok l D ad cI cJ (wM p0 p1 p2 p3 p4 h r1 f1 s1 cI R F S cn th)) SC (va_cwS 1 hts gZ_before0_Z_check rfl rfl rfl (by decide +kernel) ⟨Nat.le_of_ble_eq_true rfl, Nat.le_of_ble_eq_true rfl⟩) hP hK hD hS hA hX rfl hl.1 rfl (Nat.le_of_ble_eq_true rfl) dZ_before0_19 ⟨Nat.le_of_ble_eq_true rfl, Nat.le_of_ble_eq_true rfl⟩ (fun H locs hP hD hS => ?_)
      have hP : va_P D vwD (wM p0 p1 p2 p3 p4 h r1 f1 s1 cI R F S cn th) H := hP
      have hD : va_D A (wM p0 p1 p2 p3 p4 h r1 f1 s1 cI R F S cn th) := hD
      refine lv_aload_n hx hb dZ_before0_22 rfl (lv_at hl 0 rfl) ?_
      refine lv_iload_n hx hb dZ_before0_23 rfl (lv_at hl 1 rfl) ?_
      by_cases he : rk_E ee cn
      · refine r_v (rm := ({ frames := 0, cells := 0, slots := 0, locals := 0 } : Room)) (As := [.int ee]) (rest := []) (j_th_ok l D ad cI cJ p0 p1 p2 p3 p4 h r1 f1 s1 R F S cn th ee he) SC (cwV 1 hts gZ_before0_Z_there rfl rfl rfl (by decide +kernel) ⟨Nat.le_of_ble_eq_true rfl, Nat.le_of_ble_eq_true rfl⟩) hP hK hD hS hA hX 5 rfl rfl rfl hl.1 rfl (Nat.le_of_ble_eq_true rfl) dZ_before0_24 ⟨Nat.le_of_ble_eq_true rfl, Nat.le_of_ble_eq_true rfl⟩ (fun H locs hP hD hS => ?_)
        have hP : va_P D vwD (wM p0 p1 p2 p3 p4 h r1 f1 s1 cI R F S cn th) H := hP
        have hD : va_D A (wM p0 p1 p2 p3 p4 h r1 f1 s1 cI R F S cn th) := hD
        refine lv_aload_n hx hb dZ_before0_27 rfl (lv_at hl 0 rfl) ?_
        refine va_get (D := D) (ci := 1) (v := .int (nI cn)) (C := RZ) (T := TZ) (N := 5) hx hb hts hu hown hK hP 5 rfl rfl 3 (by decide) hF22 (fun _ h9 => h9) rfl dZ_before0_28 ?_
        refine lv_sipush (v := 4000) hx hb dZ_before0_31 (by decide) ?_
        refine lv_icmp_ne (tgt := 45) hx hb dZ_before0_34 (by decide) (fun h5 => ?_) (fun h5 => ?_)
        · have hm : cn + 1 ≤ 4000 := by
            have q : cn ≠ 4000 := fun q => h5 (by rw [q]; exact rk_4000.symm)
            omega
          refine lv_aload_n hx hb dZ_before0_45 rfl (lv_at hl 0 rfl) ?_
          refine lv_aload_n hx hb dZ_before0_46 rfl (lv_at hl 0 rfl) ?_
          refine lv_iload_n hx hb dZ_before0_47 rfl (lv_at hl 1 rfl) ?_
          refine r_i (rm := ({ frames := 0, cells := 0, slots := 0, locals := 0 } : Room)) (As := [.int ee]) (rest := [.ref h]) (j_ir l D ad cI cJ p0 p1 p2 p3 p4 h r1 f1 s1 R F S cn th ee hc (rk_pl_E hR he)) SC (cwV 1 hts gZ_before0_Z_inRow rfl rfl rfl (by decide +kernel) ⟨Nat.le_of_ble_eq_true rfl, Nat.le_of_ble_eq_true rfl⟩) hP hK hD hS hA hX 5 rfl rfl rfl hl.1 rfl (Nat.le_of_ble_eq_true rfl) dZ_before0_48 ⟨Nat.le_of_ble_eq_true rfl, Nat.le_of_ble_eq_true rfl⟩ (fun H locs hP hD hS => ?_)
          have hP : va_P D vwD (wM p0 p1 p2 p3 p4 h r1 f1 s1 cI R F S cn th) H := hP
          have hD : va_D A (wM p0 p1 p2 p3 p4 h r1 f1 s1 cI R F S cn th) := hD
          refine lv_iload_n hx hb dZ_before0_51 rfl (lv_at hl 2 rfl) ?_
          refine lv_iload_n hx hb dZ_before0_52 rfl (lv_at hl 3 rfl) ?_
          refine r_v (rm := ({ frames := 0, cells := 0, slots := 0, locals := 0 } : Room)) (As := [.int (nI (rk_pl R ee cn)), .int a, .int b]) (rest := []) (j_op l D ad cI cJ p0 p1 p2 p3 p4 h r1 f1 s1 R F S cn th (nI (rk_pl R ee cn)) a b (rk_pl R ee cn) rfl (rk_pl_le R ee cn) hm) SC (cwV 3 hts gZ_before0_Z_open rfl rfl rfl (by decide +kernel) ⟨Nat.le_of_ble_eq_true rfl, Nat.le_of_ble_eq_true rfl⟩) hP hK hD hS hA hX 5 rfl rfl rfl hl.1 rfl (Nat.le_of_ble_eq_true rfl) dZ_before0_53 ⟨Nat.le_of_ble_eq_true rfl, Nat.le_of_ble_eq_true rfl⟩ (fun H locs hP hD hS => ?_)
          have hP : va_P D vwD (wM p0 p1 p2 p3 p4 h r1 f1 s1 cI (rk_in R cn (rk_pl R ee cn) 1) (rk_fl F cn 1 a) (rk_fl S cn 1 b) (cn + 1) th) H := hP
          have hD : va_D A (wM p0 p1 p2 p3 p4 h r1 f1 s1 cI (rk_in R cn (rk_pl R ee cn) 1) (rk_fl F cn 1 a) (rk_fl S cn 1 b) (cn + 1) th) := hD
          refine lv_aload_n hx hb dZ_before0_56 rfl (lv_at hl 0 rfl) ?_
          refine va_get (D := D) (ci := 1) (v := .int (nI (cn + 1))) (C := RZ) (T := TZ) (N := 5) hx hb hts hu hown hK hP 5 rfl rfl 3 (by decide) hF22 (fun _ h9 => h9) rfl dZ_before0_57 ?_
          refine lv_iconst (v := 1) hx hb dZ_before0_60 (by decide) ?_
          refine lv_isub hx hb dZ_before0_61 ?_
          exact e_t hx hb hr hlocks (rk_kF_0 ⟨ha, hb0⟩ he hm) hP hK hD hS dZ_before0_62 (Nat.le_of_ble_eq_true rfl) (Nat.le_of_ble_eq_true rfl)
        · have hm : cn = 4000 := by rw [rk_4000] at h5; exact (nI_eq (by omega) (by omega)).mp h5
          exact vx_throw0 (own := RZ) (cls := "java/lang/IllegalStateException") (names := ["java/lang/RuntimeException", "java/lang/Exception"]) hx hb hl9 hown (by decide +kernel) (by decide +kernel) (hts (.classLink RZ 41 "java/lang/IllegalStateException") (by decide +kernel)) (hts (.initialized "java/lang/IllegalStateException") (by decide +kernel)) (vx_hat (L := vx_at0 RZ 43 "java/lang/IllegalStateException" ["java/lang/RuntimeException", "java/lang/Exception"]) (B := [.castable "java/lang/IllegalStateException" "java/lang/IllegalStateException", .declares ⟨"java/lang/RuntimeException", "<init>", "()V"⟩, .declares ⟨"java/lang/Exception", "<init>", "()V"⟩, .declares ⟨"java/lang/Throwable", "<init>", "()V"⟩]) (fun w hw => hts w (List.mem_cons_of_mem _ (wsR_43 w hw))) (by decide +kernel) (vx_c (va_Nw.use rfl (hX.2.1 _ (List.mem_of_getElem? (i := 2) rfl))) (vx_c (va_Nw.use rfl (hX.2.2.1 _ (List.mem_of_getElem? (i := 3) rfl))) (vx_c (va_Nw.use rfl (hX.2.2.1 _ (List.mem_of_getElem? (i := 4) rfl))) (vx_c (va_Nw.use rfl (hX.2.2.1 _ (List.mem_of_getElem? (i := 5) rfl))) (vx_n)))))) (by decide +kernel) hX.1.1 hX.1.2 hS (hl.1.trans hml.symm) dZ_before0_37 dZ_before0_40 dZ_before0_41 dZ_before0_44 (fun x h => (hex x h).elim) (Nat.le_of_ble_eq_true rfl) (Nat.le_of_ble_eq_true rfl) (Nat.le_of_ble_eq_true rfl) (Nat.le_of_ble_eq_true rfl) hlocks (r_t (rk_kF_3 ⟨ha, hb0⟩ he (by omega)) (by decide) (by decide +kernel) hP hK hD hS) hS.2.2 (Nat.le_of_ble_eq_true rfl) (Nat.le_of_ble_eq_true rfl)
      · exact r_x (rm := ({ frames := 6, cells := 1, slots := 6, locals := 100 } : Room)) (As := [.int ee]) (rest := []) (j_th_bad l D ad cI cJ p0 p1 p2 p3 p4 h r1 f1 s1 R F S cn th ee hl9 he) SC (cwV 1 hts gZ_before0_Z_there rfl rfl rfl (by decide +kernel) ⟨Nat.le_of_ble_eq_true rfl, Nat.le_of_ble_eq_true rfl⟩) hP hK hD hS hA hX 5 rfl rfl rfl hl.1 rfl (Nat.le_of_ble_eq_true rfl) dZ_before0_24 ⟨Nat.le_of_ble_eq_true rfl, Nat.le_of_ble_eq_true rfl⟩ hex hlocks (rk_kF_2 ⟨ha, hb0⟩ he).symm (Nat.le_of_ble_eq_true rfl) (Nat.le_of_ble_eq_true rfl)
    · refine r_si (rm := ({ frames := 0, cells := 0, slots := 0, locals := 0 } : Room)) (As := [.int b]) (rest := []) (j_iw_0 l D ad cI cJ (wM p0 p1 p2 p3 p4 h r1 f1 s1 cI R F S cn th) b hb0) SC (va_cwS 1 hts gZ_before0_Z_isWeight rfl rfl rfl (by decide +kernel) ⟨Nat.le_of_ble_eq_true rfl, Nat.le_of_ble_eq_true rfl⟩) hP hK hD hS hA hX rfl hl.1 rfl (Nat.le_of_ble_eq_true rfl) dZ_before0_8 ⟨Nat.le_of_ble_eq_true rfl, Nat.le_of_ble_eq_true rfl⟩ (fun H locs hP hD hS => ?_)
      have hP : va_P D vwD (wM p0 p1 p2 p3 p4 h r1 f1 s1 cI R F S cn th) H := hP
      have hD : va_D A (wM p0 p1 p2 p3 p4 h r1 f1 s1 cI R F S cn th) := hD
      refine lv_if_eq (tgt := 18) hx hb dZ_before0_11 (by decide) (fun _ => ?_) (fun h9 => absurd (rfl) h9)
      exact hbad (rk_kF_1 (fun q => hb0 q.2)) H locs hP hD hS ls hl
  · refine r_si (rm := ({ frames := 0, cells := 0, slots := 0, locals := 0 } : Room)) (As := [.int a]) (rest := []) (j_iw_0 l D ad cI cJ (wM p0 p1 p2 p3 p4 h r1 f1 s1 cI R F S cn th) a ha) SC (va_cwS 1 hts gZ_before0_Z_isWeight rfl rfl rfl (by decide +kernel) ⟨Nat.le_of_ble_eq_true rfl, Nat.le_of_ble_eq_true rfl⟩) hP hK hD hS hA hX rfl hl.1 rfl (Nat.le_of_ble_eq_true rfl) dZ_before0_1 ⟨Nat.le_of_ble_eq_true rfl, Nat.le_of_ble_eq_true rfl⟩ (fun H locs hP hD hS => ?_)
    have hP : va_P D vwD (wM p0 p1 p2 p3 p4 h r1 f1 s1 cI R F S cn th) H := hP
    have hD : va_D A (wM p0 p1 p2 p3 p4 h r1 f1 s1 cI R F S cn th) := hD
    refine lv_if_eq (tgt := 18) hx hb dZ_before0_4 (by decide) (fun _ => ?_) (fun h9 => absurd (rfl) h9)
    exact hbad (rk_kF_1 (fun q => ha q.1)) H locs hP hD hS ls hl
set_option maxHeartbeats 4000000 in
set_option maxRecDepth 100000 in
theorem j_weigh (l : Launch) (D : va_G) (ad : Nat → Nat) (cI cJ : ClassId) (p0 p1 p2 p3 p4 : Nat × va_E) (h r1 f1 s1 : Nat) (R F S : Nat → Int32) (cn : Nat) (th : Int32) (ee a b : Int32) (hl9 : l.stackTraces = false) (hR : rk_ok R cn) : uT l yZ_weigh0 wsZ_weigh0 ({ frames := 7, cells := 1, slots := 6, locals := 140 } : Room) D ad [(cI, .int), (cJ, .long)] [.ref h, .int ee, .int a, .int b] (wM p0 p1 p2 p3 p4 h r1 f1 s1 cI R F S cn th) (wM p0 p1 p2 p3 p4 h r1 f1 s1 cI R (upd F ee.toNatClampNeg a) (upd S ee.toNatClampNeg b) cn th) (rk_kW ee a b cn) (F ee.toNatClampNeg) := by
  unfold uT
  refine st_T (Qc := qT D [(cI, .int), (cJ, .long)] (wM p0 p1 p2 p3 p4 h r1 f1 s1 cI R (upd F ee.toNatClampNeg a) (upd S ee.toNatClampNeg b) cn th) (rk_kW ee a b cn) (F ee.toNatClampNeg)) (XC := xT D [(cI, .int), (cJ, .long)] (wM p0 p1 p2 p3 p4 h r1 f1 s1 cI R F S cn th) (rk_kW ee a b cn)) (mc := 1) (ms := 6) (cc := cZ_weigh0) (maxL := 5) (ret := (some .int)) [.ref h, .int ee, .int a, .int b] (by decide) rfl (Nat.le_of_ble_eq_true rfl) (fun p en s m below meth c A ls hex hx hb hr hlocks hml hts hown hA hS hP hK hD hX hl => ?_)
  have hown : s.vm.findClass RZ = some m.cls := hown
  have hl : lv_has ls 5 [(0, .ref h), (1, .int ee), (2, .int a), (3, .int b)] := hl
  have hu : ∀ w ∈ u_ws RZ TZ 5, w ∈ wsZ_weigh0 := fun w h => List.mem_cons_of_mem _ (wsZ0_in w h)
  have hF13 := hts (.fieldLink RZ 13 "RankRowsModel" "first" "[I") (by decide +kernel)
  have hF16 := hts (.fieldLink RZ 16 "RankRowsModel" "second" "[I") (by decide +kernel)
  have SC : CallFix p m c cZ_weigh0 5 s ([.ref h, .int ee, .int a, .int b] : List Value).toArray wsZ_weigh0 RZ := ⟨hx, hb, hml, hown, hts⟩
  have hc := hR.1
  have hbad : rk_kW ee a b cn = 1 → ∀ (H : Heap) (locs : List Loc), va_P D vwD (wM p0 p1 p2 p3 p4 h r1 f1 s1 cI R F S cn th) H → va_D A (wM p0 p1 p2 p3 p4 h r1 f1 s1 cI R F S cn th) → va_S A s.heap H locs → ∀ ls : Array Slot, lv_has ls 5 [(0, .ref h), (1, .int ee), (2, .int a), (3, .int b)] → W p l en ({ frames := 7, cells := 1, slots := 6, locals := 140 } : Room) s m ([.ref h, .int ee, .int a, .int b] : List Value).toArray below meth c H locs 0 0 (vx_MQ below (qT D [(cI, .int), (cJ, .long)] (wM p0 p1 p2 p3 p4 h r1 f1 s1 cI R (upd F ee.toNatClampNeg a) (upd S ee.toNatClampNeg b) cn th) (rk_kW ee a b cn) (F ee.toNatClampNeg) A) (xT D [(cI, .int), (cJ, .long)] (wM p0 p1 p2 p3 p4 h r1 f1 s1 cI R F S cn th) (rk_kW ee a b cn) A) ([.ref h, .int ee, .int a, .int b] : List Value).toArray s 1 6 A) (F0 m 18 ls []) := by
    intro hk1 H locs hP hD hS ls hl
    refine lv_iconst (v := 0) hx hb dZ_weigh0_18 (by decide) ?_
    exact r_sx (rm := ({ frames := 6, cells := 1, slots := 6, locals := 100 } : Room)) (As := [.int 0]) (rest := []) (j_ch_bad l D ad cI cJ (wM p0 p1 p2 p3 p4 h r1 f1 s1 cI R F S cn th) hl9) SC (va_cwS 1 hts gZ_weigh0_Z_check rfl rfl rfl (by decide +kernel) ⟨Nat.le_of_ble_eq_true rfl, Nat.le_of_ble_eq_true rfl⟩) hP hK hD hS hA hX rfl hl.1 rfl (Nat.le_of_ble_eq_true rfl) dZ_weigh0_19 ⟨Nat.le_of_ble_eq_true rfl, Nat.le_of_ble_eq_true rfl⟩ hex hlocks hk1.symm (Nat.le_of_ble_eq_true rfl) (Nat.le_of_ble_eq_true rfl)
  refine lv_iload_n hx hb dZ_weigh0_0 rfl (lv_at hl 2 rfl) ?_
  by_cases ha : rk_W a
  · refine r_si (rm := ({ frames := 0, cells := 0, slots := 0, locals := 0 } : Room)) (As := [.int a]) (rest := []) (j_iw_1 l D ad cI cJ (wM p0 p1 p2 p3 p4 h r1 f1 s1 cI R F S cn th) a ha) SC (va_cwS 1 hts gZ_weigh0_Z_isWeight rfl rfl rfl (by decide +kernel) ⟨Nat.le_of_ble_eq_true rfl, Nat.le_of_ble_eq_true rfl⟩) hP hK hD hS hA hX rfl hl.1 rfl (Nat.le_of_ble_eq_true rfl) dZ_weigh0_1 ⟨Nat.le_of_ble_eq_true rfl, Nat.le_of_ble_eq_true rfl⟩ (fun H locs hP hD hS => ?_)
    have hP : va_P D vwD (wM p0 p1 p2 p3 p4 h r1 f1 s1 cI R F S cn th) H := hP
    have hD : va_D A (wM p0 p1 p2 p3 p4 h r1 f1 s1 cI R F S cn th) := hD
    refine lv_if_eq (tgt := 18) hx hb dZ_weigh0_4 (by decide) (fun h9 => absurd h9 ((by decide : ¬ (1 : Int32) = 0))) (fun _ => ?_)
    refine lv_iload_n hx hb dZ_weigh0_7 rfl (lv_at hl 3 rfl) ?_
    by_cases hb0 : rk_W b
    · refine r_si (rm := ({ frames := 0, cells := 0, slots := 0, locals := 0 } : Room)) (As := [.int b]) (rest := []) (j_iw_1 l D ad cI cJ (wM p0 p1 p2 p3 p4 h r1 f1 s1 cI R F S cn th) b hb0) SC (va_cwS 1 hts gZ_weigh0_Z_isWeight rfl rfl rfl (by decide +kernel) ⟨Nat.le_of_ble_eq_true rfl, Nat.le_of_ble_eq_true rfl⟩) hP hK hD hS hA hX rfl hl.1 rfl (Nat.le_of_ble_eq_true rfl) dZ_weigh0_8 ⟨Nat.le_of_ble_eq_true rfl, Nat.le_of_ble_eq_true rfl⟩ (fun H locs hP hD hS => ?_)
      have hP : va_P D vwD (wM p0 p1 p2 p3 p4 h r1 f1 s1 cI R F S cn th) H := hP
      have hD : va_D A (wM p0 p1 p2 p3 p4 h r1 f1 s1 cI R F S cn th) := hD
      refine lv_if_eq (tgt := 18) hx hb dZ_weigh0_11 (by decide) (fun h9 => absurd h9 ((by decide : ¬ (1 : Int32) = 0))) (fun _ => ?_)
      refine lv_iconst (v := 1) hx hb dZ_weigh0_14 (by decide) ?_
      refine lv_goto (tgt := 19) hx hb dZ_weigh0_15 (by decide) ?_
      refine r_sv (rm := ({ frames := 0, cells := 0, slots := 0, locals := 0 } : Room)) (As := [.int 1]) (rest := []) (j_ch_ok l D ad cI cJ (wM p0 p1 p2 p3 p4 h r1 f1 s1 cI R F S cn th)) SC (va_cwS 1 hts gZ_weigh0_Z_check rfl rfl rfl (by decide +kernel) ⟨Nat.le_of_ble_eq_true rfl, Nat.le_of_ble_eq_true rfl⟩) hP hK hD hS hA hX rfl hl.1 rfl (Nat.le_of_ble_eq_true rfl) dZ_weigh0_19 ⟨Nat.le_of_ble_eq_true rfl, Nat.le_of_ble_eq_true rfl⟩ (fun H locs hP hD hS => ?_)
      have hP : va_P D vwD (wM p0 p1 p2 p3 p4 h r1 f1 s1 cI R F S cn th) H := hP
      have hD : va_D A (wM p0 p1 p2 p3 p4 h r1 f1 s1 cI R F S cn th) := hD
      refine lv_aload_n hx hb dZ_weigh0_22 rfl (lv_at hl 0 rfl) ?_
      refine lv_iload_n hx hb dZ_weigh0_23 rfl (lv_at hl 1 rfl) ?_
      by_cases he : rk_E ee cn
      · refine r_v (rm := ({ frames := 0, cells := 0, slots := 0, locals := 0 } : Room)) (As := [.int ee]) (rest := []) (j_th_ok l D ad cI cJ p0 p1 p2 p3 p4 h r1 f1 s1 R F S cn th ee he) SC (cwV 1 hts gZ_weigh0_Z_there rfl rfl rfl (by decide +kernel) ⟨Nat.le_of_ble_eq_true rfl, Nat.le_of_ble_eq_true rfl⟩) hP hK hD hS hA hX 5 rfl rfl rfl hl.1 rfl (Nat.le_of_ble_eq_true rfl) dZ_weigh0_24 ⟨Nat.le_of_ble_eq_true rfl, Nat.le_of_ble_eq_true rfl⟩ (fun H locs hP hD hS => ?_)
        have hP : va_P D vwD (wM p0 p1 p2 p3 p4 h r1 f1 s1 cI R F S cn th) H := hP
        have hD : va_D A (wM p0 p1 p2 p3 p4 h r1 f1 s1 cI R F S cn th) := hD
        obtain ⟨hj, hje⟩ := rk_entc hc he
        refine lv_aload_n hx hb dZ_weigh0_27 rfl (lv_at hl 0 rfl) ?_
        refine va_get (D := D) (ci := 1) (v := .ref f1) (C := RZ) (T := TZ) (N := 5) hx hb hts hu hown hK hP 5 rfl rfl 1 (by decide) hF13 (fun _ h9 => h9) rfl dZ_weigh0_28 ?_
        refine lv_iload_n hx hb dZ_weigh0_31 rfl (lv_at hl 1 rfl) ?_
        refine q_iald hx hb hK hP 7 0 rfl rfl ee.toNatClampNeg (by omega) (Nat.le_refl _) hje dZ_weigh0_32 ?_
        refine lv_istore (lv' := [(4, .int (F ee.toNatClampNeg)), (0, .ref h), (1, .int ee), (2, .int a), (3, .int b)]) hx hb dZ_weigh0_33 hl (by decide) rfl (fun ls hl => ?_)
        refine lv_aload_n hx hb dZ_weigh0_35 rfl (lv_at hl 1 rfl) ?_
        refine va_get (D := D) (ci := 1) (v := .ref f1) (C := RZ) (T := TZ) (N := 5) hx hb hts hu hown hK hP 5 rfl rfl 1 (by decide) hF13 (fun _ h9 => h9) rfl dZ_weigh0_36 ?_
        refine lv_iload_n hx hb dZ_weigh0_39 rfl (lv_at hl 2 rfl) ?_
        refine lv_iload_n hx hb dZ_weigh0_40 rfl (lv_at hl 3 rfl) ?_
        refine q_iast hx hb hK hP hD hS 7 0 rfl rfl ee.toNatClampNeg (by omega) (Nat.le_refl _) hje dZ_weigh0_41 (fun H locs hP hD hS => ?_)
        have hP : va_P D vwD (wM p0 p1 p2 p3 p4 h r1 f1 s1 cI R (upd F ee.toNatClampNeg a) S cn th) H := hP
        have hD : va_D A (wM p0 p1 p2 p3 p4 h r1 f1 s1 cI R (upd F ee.toNatClampNeg a) S cn th) := hD
        refine lv_aload_n hx hb dZ_weigh0_42 rfl (lv_at hl 1 rfl) ?_
        refine va_get (D := D) (ci := 1) (v := .ref s1) (C := RZ) (T := TZ) (N := 5) hx hb hts hu hown hK hP 5 rfl rfl 2 (by decide) hF16 (fun _ h9 => h9) rfl dZ_weigh0_43 ?_
        refine lv_iload_n hx hb dZ_weigh0_46 rfl (lv_at hl 2 rfl) ?_
        refine lv_iload_n hx hb dZ_weigh0_47 rfl (lv_at hl 4 rfl) ?_
        refine q_iast hx hb hK hP hD hS 8 0 rfl rfl ee.toNatClampNeg (by omega) (Nat.le_refl _) hje dZ_weigh0_48 (fun H locs hP hD hS => ?_)
        have hP : va_P D vwD (wM p0 p1 p2 p3 p4 h r1 f1 s1 cI R (upd F ee.toNatClampNeg a) (upd S ee.toNatClampNeg b) cn th) H := hP
        have hD : va_D A (wM p0 p1 p2 p3 p4 h r1 f1 s1 cI R (upd F ee.toNatClampNeg a) (upd S ee.toNatClampNeg b) cn th) := hD
        refine lv_iload hx hb dZ_weigh0_49 (lv_at hl 0 rfl) ?_
        exact e_t hx hb hr hlocks (rk_kW_0 ⟨ha, hb0⟩ he) hP hK hD hS dZ_weigh0_51 (Nat.le_of_ble_eq_true rfl) (Nat.le_of_ble_eq_true rfl)
      · exact r_x (rm := ({ frames := 6, cells := 1, slots := 6, locals := 100 } : Room)) (As := [.int ee]) (rest := []) (j_th_bad l D ad cI cJ p0 p1 p2 p3 p4 h r1 f1 s1 R F S cn th ee hl9 he) SC (cwV 1 hts gZ_weigh0_Z_there rfl rfl rfl (by decide +kernel) ⟨Nat.le_of_ble_eq_true rfl, Nat.le_of_ble_eq_true rfl⟩) hP hK hD hS hA hX 5 rfl rfl rfl hl.1 rfl (Nat.le_of_ble_eq_true rfl) dZ_weigh0_24 ⟨Nat.le_of_ble_eq_true rfl, Nat.le_of_ble_eq_true rfl⟩ hex hlocks (rk_kW_2 ⟨ha, hb0⟩ he).symm (Nat.le_of_ble_eq_true rfl) (Nat.le_of_ble_eq_true rfl)
    · refine r_si (rm := ({ frames := 0, cells := 0, slots := 0, locals := 0 } : Room)) (As := [.int b]) (rest := []) (j_iw_0 l D ad cI cJ (wM p0 p1 p2 p3 p4 h r1 f1 s1 cI R F S cn th) b hb0) SC (va_cwS 1 hts gZ_weigh0_Z_isWeight rfl rfl rfl (by decide +kernel) ⟨Nat.le_of_ble_eq_true rfl, Nat.le_of_ble_eq_true rfl⟩) hP hK hD hS hA hX rfl hl.1 rfl (Nat.le_of_ble_eq_true rfl) dZ_weigh0_8 ⟨Nat.le_of_ble_eq_true rfl, Nat.le_of_ble_eq_true rfl⟩ (fun H locs hP hD hS => ?_)
      have hP : va_P D vwD (wM p0 p1 p2 p3 p4 h r1 f1 s1 cI R F S cn th) H := hP
      have hD : va_D A (wM p0 p1 p2 p3 p4 h r1 f1 s1 cI R F S cn th) := hD
      refine lv_if_eq (tgt := 18) hx hb dZ_weigh0_11 (by decide) (fun _ => ?_) (fun h9 => absurd (rfl) h9)
      exact hbad (rk_kW_1 (fun q => hb0 q.2)) H locs hP hD hS ls hl
  · refine r_si (rm := ({ frames := 0, cells := 0, slots := 0, locals := 0 } : Room)) (As := [.int a]) (rest := []) (j_iw_0 l D ad cI cJ (wM p0 p1 p2 p3 p4 h r1 f1 s1 cI R F S cn th) a ha) SC (va_cwS 1 hts gZ_weigh0_Z_isWeight rfl rfl rfl (by decide +kernel) ⟨Nat.le_of_ble_eq_true rfl, Nat.le_of_ble_eq_true rfl⟩) hP hK hD hS hA hX rfl hl.1 rfl (Nat.le_of_ble_eq_true rfl) dZ_weigh0_1 ⟨Nat.le_of_ble_eq_true rfl, Nat.le_of_ble_eq_true rfl⟩ (fun H locs hP hD hS => ?_)
    have hP : va_P D vwD (wM p0 p1 p2 p3 p4 h r1 f1 s1 cI R F S cn th) H := hP
    have hD : va_D A (wM p0 p1 p2 p3 p4 h r1 f1 s1 cI R F S cn th) := hD
    refine lv_if_eq (tgt := 18) hx hb dZ_weigh0_4 (by decide) (fun _ => ?_) (fun h9 => absurd (rfl) h9)
    exact hbad (rk_kW_1 (fun q => ha q.1)) H locs hP hD hS ls hl
end
section
/-! The reference: find0, sum0, next0, place0 -/
set_option maxHeartbeats 4000000 in
set_option maxRecDepth 100000 in
theorem j_find (l : Launch) (D : va_G) (ad : Nat → Nat) (cI cJ : ClassId) (p0 p1 p2 p3 p4 : Nat × va_E) (h r1 f1 s1 : Nat) (R F S : Nat → Int32) (cn : Nat) (th : Int32) (q : Int32) (hl9 : l.stackTraces = false) (hR : rk_ok R cn) : uT l yZ_find0 wsZ_find0 ({ frames := 7, cells := 1, slots := 6, locals := 140 } : Room) D ad [(cI, .int), (cJ, .long)] [.ref h, .int q] (wM p0 p1 p2 p3 p4 h r1 f1 s1 cI R F S cn th) (wM p0 p1 p2 p3 p4 h r1 f1 s1 cI R F S cn th) (rk_kD R F q cn) (R (rk_fd R F q cn)) := by
  unfold uT
  refine st_T (Qc := qT D [(cI, .int), (cJ, .long)] (wM p0 p1 p2 p3 p4 h r1 f1 s1 cI R F S cn th) (rk_kD R F q cn) (R (rk_fd R F q cn))) (XC := xT D [(cI, .int), (cJ, .long)] (wM p0 p1 p2 p3 p4 h r1 f1 s1 cI R F S cn th) (rk_kD R F q cn)) (mc := 1) (ms := 6) (cc := cZ_find0) (maxL := 4) (ret := (some .int)) [.ref h, .int q] (by decide) rfl (Nat.le_of_ble_eq_true rfl) (fun p en s m below meth c A ls hex hx hb hr hlocks hml hts hown hA hS hP hK hD hX hl => ?_)
  have hown : s.vm.findClass RZ = some m.cls := hown
  have hl : lv_has ls 4 [(0, .ref h), (1, .int q)] := hl
  have hu : ∀ w ∈ u_ws RZ TZ 5, w ∈ wsZ_find0 := fun w h => List.mem_cons_of_mem _ (wsZ0_in w h)
  have hF9 := hts (.fieldLink RZ 9 "RankRowsModel" "row" "[I") (by decide +kernel)
  have hF13 := hts (.fieldLink RZ 13 "RankRowsModel" "first" "[I") (by decide +kernel)
  have hF22 := hts (.fieldLink RZ 22 "RankRowsModel" "many" "I") (by decide +kernel)
  have SC : CallFix p m c cZ_find0 4 s ([.ref h, .int q] : List Value).toArray wsZ_find0 RZ := ⟨hx, hb, hml, hown, hts⟩
  have hc := hR.1
  refine lv_iconst (v := 0) hx hb dZ_find0_0 (by decide) ?_
  refine lv_istore_n (lv' := [(2, .int 0), (0, .ref h), (1, .int q)]) hx hb dZ_find0_1 rfl hl (by decide) rfl (fun ls hl => ?_)
  refine lv_iconst (v := 0) hx hb dZ_find0_2 (by decide) ?_
  refine lv_istore_n (lv' := [(3, .int 0), (2, .int 0), (0, .ref h), (1, .int q)]) hx hb dZ_find0_3 rfl hl (by decide) rfl (fun ls hl => ?_)
  have loop : ∀ (d k : Nat), cn - k < d → k ≤ cn → (∀ j, j < k → ¬ q < rk_sm R F (j + 1)) → ∀ ls : Array Slot, lv_has ls 4 [(3, .int (nI k)), (2, .int (rk_sm R F k)), (0, .ref h), (1, .int q)] → W p l en ({ frames := 7, cells := 1, slots := 6, locals := 140 } : Room) s m ([.ref h, .int q] : List Value).toArray below meth c s.heap [] 0 0 (vx_MQ below (qT D [(cI, .int), (cJ, .long)] (wM p0 p1 p2 p3 p4 h r1 f1 s1 cI R F S cn th) (rk_kD R F q cn) (R (rk_fd R F q cn)) A) (xT D [(cI, .int), (cJ, .long)] (wM p0 p1 p2 p3 p4 h r1 f1 s1 cI R F S cn th) (rk_kD R F q cn) A) ([.ref h, .int q] : List Value).toArray s 1 6 A) (F0 m 4 ls []) := by
    intro d
    induction d with
    | zero => intro k hd; exact absurd hd (Nat.not_lt_zero _)
    | succ d ih =>
      intro k hd hk hno ls hl
      refine lv_iload_n hx hb dZ_find0_4 rfl (lv_at hl 0 rfl) ?_
      refine lv_aload_n hx hb dZ_find0_5 rfl (lv_at hl 2 rfl) ?_
      refine va_get (D := D) (ci := 1) (v := .int (nI cn)) (C := RZ) (T := TZ) (N := 5) hx hb hts hu hown hK hP 5 rfl rfl 3 (by decide) hF22 (fun _ h9 => h9) rfl dZ_find0_6 ?_
      refine lv_icmp_ge (tgt := 48) hx hb dZ_find0_9 (by decide) (fun h2 => ?_) (fun h2 => ?_)
      · have hkc : cn ≤ k := (nI_leI (by omega) (by omega)).mp h2
        have hfd : rk_fd R F q cn = k := rk_fd_eq hk hno (fun z => absurd z (by omega))
        exact vx_throw0 (own := RZ) (cls := "java/util/NoSuchElementException") (names := ["java/lang/RuntimeException", "java/lang/Exception"]) hx hb hl9 hown (by decide +kernel) (by decide +kernel) (hts (.classLink RZ 26 "java/util/NoSuchElementException") (by decide +kernel)) (hts (.initialized "java/util/NoSuchElementException") (by decide +kernel)) (vx_hat (L := vx_at0 RZ 28 "java/util/NoSuchElementException" ["java/lang/RuntimeException", "java/lang/Exception"]) (B := [.castable "java/util/NoSuchElementException" "java/util/NoSuchElementException", .declares ⟨"java/lang/RuntimeException", "<init>", "()V"⟩, .declares ⟨"java/lang/Exception", "<init>", "()V"⟩, .declares ⟨"java/lang/Throwable", "<init>", "()V"⟩]) (fun w hw => hts w (List.mem_cons_of_mem _ (wsR_28 w hw))) (by decide +kernel) (vx_c (va_Nw.use rfl (hX.2.1 _ (List.mem_of_getElem? (i := 1) rfl))) (vx_c (va_Nw.use rfl (hX.2.2.1 _ (List.mem_of_getElem? (i := 3) rfl))) (vx_c (va_Nw.use rfl (hX.2.2.1 _ (List.mem_of_getElem? (i := 4) rfl))) (vx_c (va_Nw.use rfl (hX.2.2.1 _ (List.mem_of_getElem? (i := 5) rfl))) (vx_n)))))) (by decide +kernel) hX.1.1 hX.1.2 hS (hl.1.trans hml.symm) dZ_find0_48 dZ_find0_51 dZ_find0_52 dZ_find0_55 (fun x h => (hex x h).elim) (Nat.le_of_ble_eq_true rfl) (Nat.le_of_ble_eq_true rfl) (Nat.le_of_ble_eq_true rfl) (Nat.le_of_ble_eq_true rfl) hlocks (r_t (rk_kD_2 (fun z => by have := z.2; omega)) (by decide) (by decide +kernel) hP hK hD hS) hS.2.2 (Nat.le_of_ble_eq_true rfl) (Nat.le_of_ble_eq_true rfl)
      · have hkc : k < cn := Nat.lt_of_not_le (fun z => h2 ((nI_leI (by omega) (by omega)).mpr z))
        obtain ⟨j, hj, hRk⟩ := hR.2.1 k hkc
        refine lv_iload_n hx hb dZ_find0_12 rfl (lv_at hl 3 rfl) ?_
        refine lv_if_lt (tgt := 48) hx hb dZ_find0_13 (by decide) (fun h1 => ?_) (fun h1 => ?_)
        · exact vx_throw0 (own := RZ) (cls := "java/util/NoSuchElementException") (names := ["java/lang/RuntimeException", "java/lang/Exception"]) hx hb hl9 hown (by decide +kernel) (by decide +kernel) (hts (.classLink RZ 26 "java/util/NoSuchElementException") (by decide +kernel)) (hts (.initialized "java/util/NoSuchElementException") (by decide +kernel)) (vx_hat (L := vx_at0 RZ 28 "java/util/NoSuchElementException" ["java/lang/RuntimeException", "java/lang/Exception"]) (B := [.castable "java/util/NoSuchElementException" "java/util/NoSuchElementException", .declares ⟨"java/lang/RuntimeException", "<init>", "()V"⟩, .declares ⟨"java/lang/Exception", "<init>", "()V"⟩, .declares ⟨"java/lang/Throwable", "<init>", "()V"⟩]) (fun w hw => hts w (List.mem_cons_of_mem _ (wsR_28 w hw))) (by decide +kernel) (vx_c (va_Nw.use rfl (hX.2.1 _ (List.mem_of_getElem? (i := 1) rfl))) (vx_c (va_Nw.use rfl (hX.2.2.1 _ (List.mem_of_getElem? (i := 3) rfl))) (vx_c (va_Nw.use rfl (hX.2.2.1 _ (List.mem_of_getElem? (i := 4) rfl))) (vx_c (va_Nw.use rfl (hX.2.2.1 _ (List.mem_of_getElem? (i := 5) rfl))) (vx_n)))))) (by decide +kernel) hX.1.1 hX.1.2 hS (hl.1.trans hml.symm) dZ_find0_48 dZ_find0_51 dZ_find0_52 dZ_find0_55 (fun x h => (hex x h).elim) (Nat.le_of_ble_eq_true rfl) (Nat.le_of_ble_eq_true rfl) (Nat.le_of_ble_eq_true rfl) (Nat.le_of_ble_eq_true rfl) hlocks (r_t (rk_kD_2 (fun z => z.1 h1)) (by decide) (by decide +kernel) hP hK hD hS) hS.2.2 (Nat.le_of_ble_eq_true rfl) (Nat.le_of_ble_eq_true rfl)
        · refine lv_iload_n hx hb dZ_find0_16 rfl (lv_at hl 1 rfl) ?_
          refine lv_aload_n hx hb dZ_find0_17 rfl (lv_at hl 2 rfl) ?_
          refine va_get (D := D) (ci := 1) (v := .ref f1) (C := RZ) (T := TZ) (N := 5) hx hb hts hu hown hK hP 5 rfl rfl 1 (by decide) hF13 (fun _ h9 => h9) rfl dZ_find0_18 ?_
          refine lv_aload_n hx hb dZ_find0_21 rfl (lv_at hl 2 rfl) ?_
          refine va_get (D := D) (ci := 1) (v := .ref r1) (C := RZ) (T := TZ) (N := 5) hx hb hts hu hown hK hP 5 rfl rfl 0 (by decide) hF9 (fun _ h9 => h9) rfl dZ_find0_22 ?_
          refine lv_iload_n hx hb dZ_find0_25 rfl (lv_at hl 0 rfl) ?_
          refine q_iald hx hb hK hP 6 0 rfl rfl k (by omega) (Nat.le_refl _) rfl dZ_find0_26 ?_
          refine q_iald hx hb hK hP 7 0 rfl rfl j (by omega) (Nat.le_refl _) hRk dZ_find0_27 ?_
          refine lv_iadd hx hb dZ_find0_28 ?_
          refine q_top (rk_sm R F (k + 1)) (by show _ = rk_sm R F k + F (R k).toNatClampNeg; rw [hRk, rk_cl j (by omega)]) ?_
          refine lv_istore_n (lv' := [(2, .int (rk_sm R F (k + 1))), (3, .int (nI k)), (0, .ref h), (1, .int q)]) hx hb dZ_find0_29 rfl hl (by decide) rfl (fun ls hl => ?_)
          refine lv_iload_n hx hb dZ_find0_30 rfl (lv_at hl 0 rfl) ?_
          refine lv_iload_n hx hb dZ_find0_31 rfl (lv_at hl 3 rfl) ?_
          refine lv_icmp_le (tgt := 42) hx hb dZ_find0_32 (by decide) (fun h3 => ?_) (fun h3 => ?_)
          · refine lv_iinc (k := 1) (v := nI (k + 1)) (lv' := [(3, .int (nI (k + 1))), (2, .int (rk_sm R F (k + 1))), (0, .ref h), (1, .int q)]) hx hb dZ_find0_42 hl rfl (by rw [(by decide : Int32.ofInt 1 = 1)]; exact nI_1 _) (by decide) rfl (fun ls hl => ?_)
            refine lv_goto (tgt := 4) hx hb dZ_find0_45 (by decide) ?_
            exact ih (k + 1) (by omega) (by omega) (fun j hj => (Nat.lt_succ_iff_lt_or_eq.mp hj).elim (fun q => hno j q) (fun q => by rw [q]; exact Int32.not_lt.mpr h3)) ls hl
          · have hfd : rk_fd R F q cn = k := rk_fd_eq hk hno (fun _ => Int32.not_le.mp h3)
            refine lv_aload_n hx hb dZ_find0_35 rfl (lv_at hl 2 rfl) ?_
            refine va_get (D := D) (ci := 1) (v := .ref r1) (C := RZ) (T := TZ) (N := 5) hx hb hts hu hown hK hP 5 rfl rfl 0 (by decide) hF9 (fun _ h9 => h9) rfl dZ_find0_36 ?_
            refine lv_iload_n hx hb dZ_find0_39 rfl (lv_at hl 1 rfl) ?_
            refine q_iald hx hb hK hP 6 0 rfl rfl k (by omega) (Nat.le_refl _) rfl dZ_find0_40 ?_
            refine q_top (R (rk_fd R F q cn)) (by rw [hfd]) ?_
            exact e_t hx hb hr hlocks (rk_kD_0 ⟨h1, by omega⟩) hP hK hD hS dZ_find0_41 (Nat.le_of_ble_eq_true rfl) (Nat.le_of_ble_eq_true rfl)
  have hl : lv_has ls 4 [(3, .int (nI 0)), (2, .int (rk_sm R F 0)), (0, .ref h), (1, .int q)] := hl
  exact loop (cn + 1) 0 (by omega) (Nat.zero_le _) (fun j q => absurd q (Nat.not_lt_zero j)) ls hl
set_option maxHeartbeats 4000000 in
set_option maxRecDepth 100000 in
theorem j_sum (l : Launch) (D : va_G) (ad : Nat → Nat) (cI cJ : ClassId) (p0 p1 p2 p3 p4 : Nat × va_E) (h r1 f1 s1 : Nat) (R F S : Nat → Int32) (cn : Nat) (th : Int32) (ee z : Int32) (hl9 : l.stackTraces = false) (hR : rk_ok R cn) : uT l yZ_sum0 wsZ_sum0 ({ frames := 7, cells := 1, slots := 6, locals := 140 } : Room) D ad [(cI, .int), (cJ, .long)] [.ref h, .int ee, .int z] (wM p0 p1 p2 p3 p4 h r1 f1 s1 cI R F S cn th) (wM p0 p1 p2 p3 p4 h r1 f1 s1 cI R F S cn th) (rk_kS ee z cn) (rk_sm R (if z = 0 then F else S) (if ee = -1 then cn else rk_pl R ee cn)) := by
  unfold uT
  refine st_T (Qc := qT D [(cI, .int), (cJ, .long)] (wM p0 p1 p2 p3 p4 h r1 f1 s1 cI R F S cn th) (rk_kS ee z cn) (rk_sm R (if z = 0 then F else S) (if ee = -1 then cn else rk_pl R ee cn))) (XC := xT D [(cI, .int), (cJ, .long)] (wM p0 p1 p2 p3 p4 h r1 f1 s1 cI R F S cn th) (rk_kS ee z cn)) (mc := 1) (ms := 6) (cc := cZ_sum0) (maxL := 5) (ret := (some .int)) [.ref h, .int ee, .int z] (by decide) rfl (Nat.le_of_ble_eq_true rfl) (fun p en s m below meth c A ls hex hx hb hr hlocks hml hts hown hA hS hP hK hD hX hl => ?_)
  have hown : s.vm.findClass RZ = some m.cls := hown
  have hl : lv_has ls 5 [(0, .ref h), (1, .int ee), (2, .int z)] := hl
  have hu : ∀ w ∈ u_ws RZ TZ 5, w ∈ wsZ_sum0 := fun w h => List.mem_cons_of_mem _ (wsZ0_in w h)
  have hF9 := hts (.fieldLink RZ 9 "RankRowsModel" "row" "[I") (by decide +kernel)
  have hF13 := hts (.fieldLink RZ 13 "RankRowsModel" "first" "[I") (by decide +kernel)
  have hF16 := hts (.fieldLink RZ 16 "RankRowsModel" "second" "[I") (by decide +kernel)
  have hF22 := hts (.fieldLink RZ 22 "RankRowsModel" "many" "I") (by decide +kernel)
  have SC : CallFix p m c cZ_sum0 5 s ([.ref h, .int ee, .int z] : List Value).toArray wsZ_sum0 RZ := ⟨hx, hb, hml, hown, hts⟩
  have hc := hR.1
  have hgo : (z = 0 ∨ z = 1) → (ee = -1 ∨ rk_E ee cn) → ∀ (H : Heap) (locs : List Loc), va_P D vwD (wM p0 p1 p2 p3 p4 h r1 f1 s1 cI R F S cn th) H → va_D A (wM p0 p1 p2 p3 p4 h r1 f1 s1 cI R F S cn th) → va_S A s.heap H locs → ∀ ls : Array Slot, lv_has ls 5 [(0, .ref h), (1, .int ee), (2, .int z)] → W p l en ({ frames := 7, cells := 1, slots := 6, locals := 140 } : Room) s m ([.ref h, .int ee, .int z] : List Value).toArray below meth c H locs 0 0 (vx_MQ below (qT D [(cI, .int), (cJ, .long)] (wM p0 p1 p2 p3 p4 h r1 f1 s1 cI R F S cn th) (rk_kS ee z cn) (rk_sm R (if z = 0 then F else S) (if ee = -1 then cn else rk_pl R ee cn)) A) (xT D [(cI, .int), (cJ, .long)] (wM p0 p1 p2 p3 p4 h r1 f1 s1 cI R F S cn th) (rk_kS ee z cn) A) ([.ref h, .int ee, .int z] : List Value).toArray s 1 6 A) (F0 m 27 ls []) := by
    intro hz he H locs hP hD hS ls hl
    refine lv_iconst (v := 0) hx hb dZ_sum0_27 (by decide) ?_
    refine lv_istore_n (lv' := [(3, .int 0), (0, .ref h), (1, .int ee), (2, .int z)]) hx hb dZ_sum0_28 rfl hl (by decide) rfl (fun ls hl => ?_)
    refine lv_iconst (v := 0) hx hb dZ_sum0_29 (by decide) ?_
    refine lv_istore (lv' := [(4, .int 0), (3, .int 0), (0, .ref h), (1, .int ee), (2, .int z)]) hx hb dZ_sum0_30 hl (by decide) rfl (fun ls hl => ?_)
    have loop : ∀ (d k : Nat), cn - k < d → k ≤ cn → (∀ j, j < k → ¬ R j = ee) → ∀ ls : Array Slot, lv_has ls 5 [(4, .int (nI k)), (3, .int (rk_sm R (if z = 0 then F else S) k)), (0, .ref h), (1, .int ee), (2, .int z)] → W p l en ({ frames := 7, cells := 1, slots := 6, locals := 140 } : Room) s m ([.ref h, .int ee, .int z] : List Value).toArray below meth c H locs 0 0 (vx_MQ below (qT D [(cI, .int), (cJ, .long)] (wM p0 p1 p2 p3 p4 h r1 f1 s1 cI R F S cn th) (rk_kS ee z cn) (rk_sm R (if z = 0 then F else S) (if ee = -1 then cn else rk_pl R ee cn)) A) (xT D [(cI, .int), (cJ, .long)] (wM p0 p1 p2 p3 p4 h r1 f1 s1 cI R F S cn th) (rk_kS ee z cn) A) ([.ref h, .int ee, .int z] : List Value).toArray s 1 6 A) (F0 m 32 ls []) := by
      intro d
      induction d with
      | zero => intro k hd; exact absurd hd (Nat.not_lt_zero _)
      | succ d ih =>
        intro k hd hk hno ls hl
        refine lv_iload hx hb dZ_sum0_32 (lv_at hl 0 rfl) ?_
        refine lv_aload_n hx hb dZ_sum0_34 rfl (lv_at hl 2 rfl) ?_
        refine va_get (D := D) (ci := 1) (v := .int (nI cn)) (C := RZ) (T := TZ) (N := 5) hx hb hts hu hown hK hP 5 rfl rfl 3 (by decide) hF22 (fun _ h9 => h9) rfl dZ_sum0_35 ?_
        refine lv_icmp_ge (tgt := 92) hx hb dZ_sum0_38 (by decide) (fun h1 => ?_) (fun h1 => ?_)
        · have hkc : cn ≤ k := (nI_leI (by omega) (by omega)).mp h1
          have hpl : rk_pl R ee cn = k := rk_pl_eq hk hno (fun q => absurd q (by omega))
          refine lv_iload_n hx hb dZ_sum0_92 rfl (lv_at hl 1 rfl) ?_
          refine q_top (rk_sm R (if z = 0 then F else S) (if ee = -1 then cn else rk_pl R ee cn)) (by rw [rk_end hR, hpl]) ?_
          exact e_t hx hb hr hlocks (rk_kS_0 hz he) hP hK hD hS dZ_sum0_93 (Nat.le_of_ble_eq_true rfl) (Nat.le_of_ble_eq_true rfl)
        · have hkc : k < cn := Nat.lt_of_not_le (fun z9 => h1 ((nI_leI (by omega) (by omega)).mpr z9))
          obtain ⟨j, hj, hRk⟩ := hR.2.1 k hkc
          refine lv_aload_n hx hb dZ_sum0_41 rfl (lv_at hl 2 rfl) ?_
          refine va_get (D := D) (ci := 1) (v := .ref r1) (C := RZ) (T := TZ) (N := 5) hx hb hts hu hown hK hP 5 rfl rfl 0 (by decide) hF9 (fun _ h9 => h9) rfl dZ_sum0_42 ?_
          refine lv_iload hx hb dZ_sum0_45 (lv_at hl 0 rfl) ?_
          refine q_iald hx hb hK hP 6 0 rfl rfl k (by omega) (Nat.le_refl _) rfl dZ_sum0_47 ?_
          refine lv_iload_n hx hb dZ_sum0_48 rfl (lv_at hl 3 rfl) ?_
          refine lv_icmp_eq (tgt := 92) hx hb dZ_sum0_49 (by decide) (fun h2 => ?_) (fun h2 => ?_)
          · have hpl : rk_pl R ee cn = k := rk_pl_eq hk hno (fun _ => h2)
            refine lv_iload_n hx hb dZ_sum0_92 rfl (lv_at hl 1 rfl) ?_
            refine q_top (rk_sm R (if z = 0 then F else S) (if ee = -1 then cn else rk_pl R ee cn)) (by rw [rk_end hR, hpl]) ?_
            exact e_t hx hb hr hlocks (rk_kS_0 hz he) hP hK hD hS dZ_sum0_93 (Nat.le_of_ble_eq_true rfl) (Nat.le_of_ble_eq_true rfl)
          · refine lv_iload_n hx hb dZ_sum0_52 rfl (lv_at hl 1 rfl) ?_
            refine lv_iload_n hx hb dZ_sum0_53 rfl (lv_at hl 4 rfl) ?_
            refine lv_if_ne (tgt := 72) hx hb dZ_sum0_54 (by decide) (fun h3 => ?_) (fun h3 => ?_)
            · refine lv_aload_n hx hb dZ_sum0_72 rfl (lv_at hl 2 rfl) ?_
              refine va_get (D := D) (ci := 1) (v := .ref s1) (C := RZ) (T := TZ) (N := 5) hx hb hts hu hown hK hP 5 rfl rfl 2 (by decide) hF16 (fun _ h9 => h9) rfl dZ_sum0_73 ?_
              refine lv_aload_n hx hb dZ_sum0_76 rfl (lv_at hl 2 rfl) ?_
              refine va_get (D := D) (ci := 1) (v := .ref r1) (C := RZ) (T := TZ) (N := 5) hx hb hts hu hown hK hP 5 rfl rfl 0 (by decide) hF9 (fun _ h9 => h9) rfl dZ_sum0_77 ?_
              refine lv_iload hx hb dZ_sum0_80 (lv_at hl 0 rfl) ?_
              refine q_iald hx hb hK hP 6 0 rfl rfl k (by omega) (Nat.le_refl _) rfl dZ_sum0_82 ?_
              refine q_iald hx hb hK hP 8 0 rfl rfl j (by omega) (Nat.le_refl _) hRk dZ_sum0_83 ?_
              refine lv_iadd hx hb dZ_sum0_84 ?_
              refine q_top (rk_sm R (if z = 0 then F else S) (k + 1)) (by show _ = rk_sm R (if z = 0 then F else S) k + (if z = 0 then F else S) (R k).toNatClampNeg; rw [hRk, rk_cl j (by omega), if_neg h3]) ?_
              refine lv_istore_n (lv' := [(3, .int (rk_sm R (if z = 0 then F else S) (k + 1))), (4, .int (nI k)), (0, .ref h), (1, .int ee), (2, .int z)]) hx hb dZ_sum0_85 rfl hl (by decide) rfl (fun ls hl => ?_)
              refine lv_iinc (k := 1) (v := nI (k + 1)) (lv' := [(4, .int (nI (k + 1))), (3, .int (rk_sm R (if z = 0 then F else S) (k + 1))), (0, .ref h), (1, .int ee), (2, .int z)]) hx hb dZ_sum0_86 hl rfl (by rw [(by decide : Int32.ofInt 1 = 1)]; exact nI_1 _) (by decide) rfl (fun ls hl => ?_)
              refine lv_goto (tgt := 32) hx hb dZ_sum0_89 (by decide) ?_
              exact ih (k + 1) (by omega) (by omega) (fun j hj => (Nat.lt_succ_iff_lt_or_eq.mp hj).elim (fun q => hno j q) (fun q => by rw [q]; exact h2)) ls hl
            · refine lv_aload_n hx hb dZ_sum0_57 rfl (lv_at hl 2 rfl) ?_
              refine va_get (D := D) (ci := 1) (v := .ref f1) (C := RZ) (T := TZ) (N := 5) hx hb hts hu hown hK hP 5 rfl rfl 1 (by decide) hF13 (fun _ h9 => h9) rfl dZ_sum0_58 ?_
              refine lv_aload_n hx hb dZ_sum0_61 rfl (lv_at hl 2 rfl) ?_
              refine va_get (D := D) (ci := 1) (v := .ref r1) (C := RZ) (T := TZ) (N := 5) hx hb hts hu hown hK hP 5 rfl rfl 0 (by decide) hF9 (fun _ h9 => h9) rfl dZ_sum0_62 ?_
              refine lv_iload hx hb dZ_sum0_65 (lv_at hl 0 rfl) ?_
              refine q_iald hx hb hK hP 6 0 rfl rfl k (by omega) (Nat.le_refl _) rfl dZ_sum0_67 ?_
              refine q_iald hx hb hK hP 7 0 rfl rfl j (by omega) (Nat.le_refl _) hRk dZ_sum0_68 ?_
              refine lv_goto (tgt := 84) hx hb dZ_sum0_69 (by decide) ?_
              refine lv_iadd hx hb dZ_sum0_84 ?_
              refine q_top (rk_sm R (if z = 0 then F else S) (k + 1)) (by show _ = rk_sm R (if z = 0 then F else S) k + (if z = 0 then F else S) (R k).toNatClampNeg; rw [hRk, rk_cl j (by omega), if_pos h3]) ?_
              refine lv_istore_n (lv' := [(3, .int (rk_sm R (if z = 0 then F else S) (k + 1))), (4, .int (nI k)), (0, .ref h), (1, .int ee), (2, .int z)]) hx hb dZ_sum0_85 rfl hl (by decide) rfl (fun ls hl => ?_)
              refine lv_iinc (k := 1) (v := nI (k + 1)) (lv' := [(4, .int (nI (k + 1))), (3, .int (rk_sm R (if z = 0 then F else S) (k + 1))), (0, .ref h), (1, .int ee), (2, .int z)]) hx hb dZ_sum0_86 hl rfl (by rw [(by decide : Int32.ofInt 1 = 1)]; exact nI_1 _) (by decide) rfl (fun ls hl => ?_)
              refine lv_goto (tgt := 32) hx hb dZ_sum0_89 (by decide) ?_
              exact ih (k + 1) (by omega) (by omega) (fun j hj => (Nat.lt_succ_iff_lt_or_eq.mp hj).elim (fun q => hno j q) (fun q => by rw [q]; exact h2)) ls hl
    have hl : lv_has ls 5 [(4, .int (nI 0)), (3, .int (rk_sm R (if z = 0 then F else S) 0)), (0, .ref h), (1, .int ee), (2, .int z)] := hl
    exact loop (cn + 1) 0 (by omega) (Nat.zero_le _) (fun j q => absurd q (Nat.not_lt_zero j)) ls hl
  have hok : (z = 0 ∨ z = 1) → ∀ ls : Array Slot, lv_has ls 5 [(0, .ref h), (1, .int ee), (2, .int z)] → W p l en ({ frames := 7, cells := 1, slots := 6, locals := 140 } : Room) s m ([.ref h, .int ee, .int z] : List Value).toArray below meth c s.heap [] 0 0 (vx_MQ below (qT D [(cI, .int), (cJ, .long)] (wM p0 p1 p2 p3 p4 h r1 f1 s1 cI R F S cn th) (rk_kS ee z cn) (rk_sm R (if z = 0 then F else S) (if ee = -1 then cn else rk_pl R ee cn)) A) (xT D [(cI, .int), (cJ, .long)] (wM p0 p1 p2 p3 p4 h r1 f1 s1 cI R F S cn th) (rk_kS ee z cn) A) ([.ref h, .int ee, .int z] : List Value).toArray s 1 6 A) (F0 m 9 ls []) := by
    intro hz ls hl
    refine lv_iconst (v := 1) hx hb dZ_sum0_9 (by decide) ?_
    refine lv_goto (tgt := 14) hx hb dZ_sum0_10 (by decide) ?_
    refine r_sv (rm := ({ frames := 0, cells := 0, slots := 0, locals := 0 } : Room)) (As := [.int 1]) (rest := []) (j_ch_ok l D ad cI cJ (wM p0 p1 p2 p3 p4 h r1 f1 s1 cI R F S cn th)) SC (va_cwS 1 hts gZ_sum0_Z_check rfl rfl rfl (by decide +kernel) ⟨Nat.le_of_ble_eq_true rfl, Nat.le_of_ble_eq_true rfl⟩) hP hK hD hS hA hX rfl hl.1 rfl (Nat.le_of_ble_eq_true rfl) dZ_sum0_14 ⟨Nat.le_of_ble_eq_true rfl, Nat.le_of_ble_eq_true rfl⟩ (fun H locs hP hD hS => ?_)
    have hP : va_P D vwD (wM p0 p1 p2 p3 p4 h r1 f1 s1 cI R F S cn th) H := hP
    have hD : va_D A (wM p0 p1 p2 p3 p4 h r1 f1 s1 cI R F S cn th) := hD
    refine lv_iload_n hx hb dZ_sum0_17 rfl (lv_at hl 1 rfl) ?_
    refine lv_iconst (v := (-1)) hx hb dZ_sum0_18 (by decide) ?_
    refine lv_icmp_eq (tgt := 27) hx hb dZ_sum0_19 (by decide) (fun h3 => ?_) (fun h3 => ?_)
    · exact hgo hz (Or.inl h3) H locs hP hD hS ls hl
    · refine lv_aload_n hx hb dZ_sum0_22 rfl (lv_at hl 0 rfl) ?_
      refine lv_iload_n hx hb dZ_sum0_23 rfl (lv_at hl 1 rfl) ?_
      by_cases he : rk_E ee cn
      · refine r_v (rm := ({ frames := 0, cells := 0, slots := 0, locals := 0 } : Room)) (As := [.int ee]) (rest := []) (j_th_ok l D ad cI cJ p0 p1 p2 p3 p4 h r1 f1 s1 R F S cn th ee he) SC (cwV 1 hts gZ_sum0_Z_there rfl rfl rfl (by decide +kernel) ⟨Nat.le_of_ble_eq_true rfl, Nat.le_of_ble_eq_true rfl⟩) hP hK hD hS hA hX 5 rfl rfl rfl hl.1 rfl (Nat.le_of_ble_eq_true rfl) dZ_sum0_24 ⟨Nat.le_of_ble_eq_true rfl, Nat.le_of_ble_eq_true rfl⟩ (fun H locs hP hD hS => ?_)
        have hP : va_P D vwD (wM p0 p1 p2 p3 p4 h r1 f1 s1 cI R F S cn th) H := hP
        have hD : va_D A (wM p0 p1 p2 p3 p4 h r1 f1 s1 cI R F S cn th) := hD
        exact hgo hz (Or.inr he) H locs hP hD hS ls hl
      · exact r_x (rm := ({ frames := 6, cells := 1, slots := 6, locals := 100 } : Room)) (As := [.int ee]) (rest := []) (j_th_bad l D ad cI cJ p0 p1 p2 p3 p4 h r1 f1 s1 R F S cn th ee hl9 he) SC (cwV 1 hts gZ_sum0_Z_there rfl rfl rfl (by decide +kernel) ⟨Nat.le_of_ble_eq_true rfl, Nat.le_of_ble_eq_true rfl⟩) hP hK hD hS hA hX 5 rfl rfl rfl hl.1 rfl (Nat.le_of_ble_eq_true rfl) dZ_sum0_24 ⟨Nat.le_of_ble_eq_true rfl, Nat.le_of_ble_eq_true rfl⟩ hex hlocks (rk_kS_2 hz (fun q => q.elim h3 he)).symm (Nat.le_of_ble_eq_true rfl) (Nat.le_of_ble_eq_true rfl)
  refine lv_iload_n hx hb dZ_sum0_0 rfl (lv_at hl 2 rfl) ?_
  refine lv_if_eq (tgt := 9) hx hb dZ_sum0_1 (by decide) (fun h1 => ?_) (fun h1 => ?_)
  · exact hok (Or.inl h1) ls hl
  · refine lv_iload_n hx hb dZ_sum0_4 rfl (lv_at hl 2 rfl) ?_
    refine lv_iconst (v := 1) hx hb dZ_sum0_5 (by decide) ?_
    refine lv_icmp_ne (tgt := 13) hx hb dZ_sum0_6 (by decide) (fun h2 => ?_) (fun h2 => ?_)
    · refine lv_iconst (v := 0) hx hb dZ_sum0_13 (by decide) ?_
      exact r_sx (rm := ({ frames := 6, cells := 1, slots := 6, locals := 100 } : Room)) (As := [.int 0]) (rest := []) (j_ch_bad l D ad cI cJ (wM p0 p1 p2 p3 p4 h r1 f1 s1 cI R F S cn th) hl9) SC (va_cwS 1 hts gZ_sum0_Z_check rfl rfl rfl (by decide +kernel) ⟨Nat.le_of_ble_eq_true rfl, Nat.le_of_ble_eq_true rfl⟩) hP hK hD hS hA hX rfl hl.1 rfl (Nat.le_of_ble_eq_true rfl) dZ_sum0_14 ⟨Nat.le_of_ble_eq_true rfl, Nat.le_of_ble_eq_true rfl⟩ hex hlocks (rk_kS_1 (fun q => q.elim h1 h2)).symm (Nat.le_of_ble_eq_true rfl) (Nat.le_of_ble_eq_true rfl)
    · exact hok (Or.inr h2) ls hl
set_option maxHeartbeats 4000000 in
set_option maxRecDepth 100000 in
theorem j_next (l : Launch) (D : va_G) (ad : Nat → Nat) (cI cJ : ClassId) (p0 p1 p2 p3 p4 : Nat × va_E) (h r1 f1 s1 : Nat) (R F S : Nat → Int32) (cn : Nat) (th : Int32) (ee : Int32) (hl9 : l.stackTraces = false) (hR : rk_ok R cn) : uT l yZ_next0 wsZ_next0 ({ frames := 7, cells := 1, slots := 6, locals := 140 } : Room) D ad [(cI, .int), (cJ, .long)] [.ref h, .int ee] (wM p0 p1 p2 p3 p4 h r1 f1 s1 cI R F S cn th) (wM p0 p1 p2 p3 p4 h r1 f1 s1 cI R F S cn th) (rk_kN R ee cn) (R (rk_pb R ee cn)) := by
  unfold uT
  refine st_T (Qc := qT D [(cI, .int), (cJ, .long)] (wM p0 p1 p2 p3 p4 h r1 f1 s1 cI R F S cn th) (rk_kN R ee cn) (R (rk_pb R ee cn))) (XC := xT D [(cI, .int), (cJ, .long)] (wM p0 p1 p2 p3 p4 h r1 f1 s1 cI R F S cn th) (rk_kN R ee cn)) (mc := 1) (ms := 6) (cc := cZ_next0) (maxL := 3) (ret := (some .int)) [.ref h, .int ee] (by decide) rfl (Nat.le_of_ble_eq_true rfl) (fun p en s m below meth c A ls hex hx hb hr hlocks hml hts hown hA hS hP hK hD hX hl => ?_)
  have hown : s.vm.findClass RZ = some m.cls := hown
  have hl : lv_has ls 3 [(0, .ref h), (1, .int ee)] := hl
  have hu : ∀ w ∈ u_ws RZ TZ 5, w ∈ wsZ_next0 := fun w h => List.mem_cons_of_mem _ (wsZ0_in w h)
  have hF9 := hts (.fieldLink RZ 9 "RankRowsModel" "row" "[I") (by decide +kernel)
  have hF22 := hts (.fieldLink RZ 22 "RankRowsModel" "many" "I") (by decide +kernel)
  have SC : CallFix p m c cZ_next0 3 s ([.ref h, .int ee] : List Value).toArray wsZ_next0 RZ := ⟨hx, hb, hml, hown, hts⟩
  have hc := hR.1
  have hend : (ee = -1 ∨ rk_E ee cn) → ∀ x : Int32, x = nI (rk_pb R ee cn) → ∀ (H : Heap) (locs : List Loc), va_P D vwD (wM p0 p1 p2 p3 p4 h r1 f1 s1 cI R F S cn th) H → va_D A (wM p0 p1 p2 p3 p4 h r1 f1 s1 cI R F S cn th) → va_S A s.heap H locs → ∀ ls : Array Slot, lv_has ls 3 [(0, .ref h), (1, .int ee)] → W p l en ({ frames := 7, cells := 1, slots := 6, locals := 140 } : Room) s m ([.ref h, .int ee] : List Value).toArray below meth c H locs 0 0 (vx_MQ below (qT D [(cI, .int), (cJ, .long)] (wM p0 p1 p2 p3 p4 h r1 f1 s1 cI R F S cn th) (rk_kN R ee cn) (R (rk_pb R ee cn)) A) (xT D [(cI, .int), (cJ, .long)] (wM p0 p1 p2 p3 p4 h r1 f1 s1 cI R F S cn th) (rk_kN R ee cn) A) ([.ref h, .int ee] : List Value).toArray s 1 6 A) (F0 m 25 ls [.int x]) := by
    intro he x hxe H locs hP hD hS ls hl
    subst hxe
    have hpb := rk_pb_le hR he
    refine lv_istore_n (lv' := [(2, .int (nI (rk_pb R ee cn))), (0, .ref h), (1, .int ee)]) hx hb dZ_next0_25 rfl hl (by decide) rfl (fun ls hl => ?_)
    refine lv_iload_n hx hb dZ_next0_26 rfl (lv_at hl 0 rfl) ?_
    refine lv_aload_n hx hb dZ_next0_27 rfl (lv_at hl 1 rfl) ?_
    refine va_get (D := D) (ci := 1) (v := .int (nI cn)) (C := RZ) (T := TZ) (N := 5) hx hb hts hu hown hK hP 5 rfl rfl 3 (by decide) hF22 (fun _ h9 => h9) rfl dZ_next0_28 ?_
    refine lv_icmp_ne (tgt := 42) hx hb dZ_next0_31 (by decide) (fun h1 => ?_) (fun h1 => ?_)
    · have hlt : rk_pb R ee cn < cn := by
        have q : rk_pb R ee cn ≠ cn := fun q => h1 (by rw [q])
        omega
      refine lv_aload_n hx hb dZ_next0_42 rfl (lv_at hl 1 rfl) ?_
      refine va_get (D := D) (ci := 1) (v := .ref r1) (C := RZ) (T := TZ) (N := 5) hx hb hts hu hown hK hP 5 rfl rfl 0 (by decide) hF9 (fun _ h9 => h9) rfl dZ_next0_43 ?_
      refine lv_iload_n hx hb dZ_next0_46 rfl (lv_at hl 0 rfl) ?_
      refine q_iald hx hb hK hP 6 0 rfl rfl (rk_pb R ee cn) (by omega) (Nat.le_refl _) rfl dZ_next0_47 ?_
      exact e_t hx hb hr hlocks (rk_kN_0 ⟨he, hlt⟩) hP hK hD hS dZ_next0_48 (Nat.le_of_ble_eq_true rfl) (Nat.le_of_ble_eq_true rfl)
    · have heq : rk_pb R ee cn = cn := (nI_eq (by omega) (by omega)).mp h1
      exact vx_throw0 (own := RZ) (cls := "java/util/NoSuchElementException") (names := ["java/lang/RuntimeException", "java/lang/Exception"]) hx hb hl9 hown (by decide +kernel) (by decide +kernel) (hts (.classLink RZ 26 "java/util/NoSuchElementException") (by decide +kernel)) (hts (.initialized "java/util/NoSuchElementException") (by decide +kernel)) (vx_hat (L := vx_at0 RZ 28 "java/util/NoSuchElementException" ["java/lang/RuntimeException", "java/lang/Exception"]) (B := [.castable "java/util/NoSuchElementException" "java/util/NoSuchElementException", .declares ⟨"java/lang/RuntimeException", "<init>", "()V"⟩, .declares ⟨"java/lang/Exception", "<init>", "()V"⟩, .declares ⟨"java/lang/Throwable", "<init>", "()V"⟩]) (fun w hw => hts w (List.mem_cons_of_mem _ (wsR_28 w hw))) (by decide +kernel) (vx_c (va_Nw.use rfl (hX.2.1 _ (List.mem_of_getElem? (i := 1) rfl))) (vx_c (va_Nw.use rfl (hX.2.2.1 _ (List.mem_of_getElem? (i := 3) rfl))) (vx_c (va_Nw.use rfl (hX.2.2.1 _ (List.mem_of_getElem? (i := 4) rfl))) (vx_c (va_Nw.use rfl (hX.2.2.1 _ (List.mem_of_getElem? (i := 5) rfl))) (vx_n)))))) (by decide +kernel) hX.1.1 hX.1.2 hS (hl.1.trans hml.symm) dZ_next0_34 dZ_next0_37 dZ_next0_38 dZ_next0_41 (fun x h => (hex x h).elim) (Nat.le_of_ble_eq_true rfl) (Nat.le_of_ble_eq_true rfl) (Nat.le_of_ble_eq_true rfl) (Nat.le_of_ble_eq_true rfl) hlocks (r_t (rk_kN_2 (fun z => by have := z.2; omega)) (by decide) (by decide +kernel) hP hK hD hS) hS.2.2 (Nat.le_of_ble_eq_true rfl) (Nat.le_of_ble_eq_true rfl)
  have hgo : (ee = -1 ∨ rk_E ee cn) → ∀ (H : Heap) (locs : List Loc), va_P D vwD (wM p0 p1 p2 p3 p4 h r1 f1 s1 cI R F S cn th) H → va_D A (wM p0 p1 p2 p3 p4 h r1 f1 s1 cI R F S cn th) → va_S A s.heap H locs → ∀ ls : Array Slot, lv_has ls 3 [(0, .ref h), (1, .int ee)] → W p l en ({ frames := 7, cells := 1, slots := 6, locals := 140 } : Room) s m ([.ref h, .int ee] : List Value).toArray below meth c H locs 0 0 (vx_MQ below (qT D [(cI, .int), (cJ, .long)] (wM p0 p1 p2 p3 p4 h r1 f1 s1 cI R F S cn th) (rk_kN R ee cn) (R (rk_pb R ee cn)) A) (xT D [(cI, .int), (cJ, .long)] (wM p0 p1 p2 p3 p4 h r1 f1 s1 cI R F S cn th) (rk_kN R ee cn) A) ([.ref h, .int ee] : List Value).toArray s 1 6 A) (F0 m 10 ls []) := by
    intro he H locs hP hD hS ls hl
    refine lv_iload_n hx hb dZ_next0_10 rfl (lv_at hl 1 rfl) ?_
    refine lv_if_ge (tgt := 18) hx hb dZ_next0_11 (by decide) (fun h6 => ?_) (fun h6 => ?_)
    · have he2 : rk_E ee cn := he.resolve_left (rk_ne_m1 (rk_nn h6))
      refine lv_aload_n hx hb dZ_next0_18 rfl (lv_at hl 0 rfl) ?_
      refine lv_iload_n hx hb dZ_next0_19 rfl (lv_at hl 1 rfl) ?_
      refine r_i (rm := ({ frames := 0, cells := 0, slots := 0, locals := 0 } : Room)) (As := [.int ee]) (rest := []) (j_ir l D ad cI cJ p0 p1 p2 p3 p4 h r1 f1 s1 R F S cn th ee hc (rk_pl_E hR he2)) SC (cwV 1 hts gZ_next0_Z_inRow rfl rfl rfl (by decide +kernel) ⟨Nat.le_of_ble_eq_true rfl, Nat.le_of_ble_eq_true rfl⟩) hP hK hD hS hA hX 5 rfl rfl rfl hl.1 rfl (Nat.le_of_ble_eq_true rfl) dZ_next0_20 ⟨Nat.le_of_ble_eq_true rfl, Nat.le_of_ble_eq_true rfl⟩ (fun H locs hP hD hS => ?_)
      have hP : va_P D vwD (wM p0 p1 p2 p3 p4 h r1 f1 s1 cI R F S cn th) H := hP
      have hD : va_D A (wM p0 p1 p2 p3 p4 h r1 f1 s1 cI R F S cn th) := hD
      refine lv_iconst (v := 1) hx hb dZ_next0_23 (by decide) ?_
      refine lv_iadd hx hb dZ_next0_24 ?_
      refine q_top (nI ((rk_pl R ee cn) + 1)) (nI_1 _) ?_
      exact hend he _ (by rw [rk_pb_n (rk_ne_m1 he2.1)]) H locs hP hD hS ls hl
    · have hem : ee = -1 := he.resolve_right (fun z9 => h6 (rk_le z9.1))
      refine lv_iconst (v := 0) hx hb dZ_next0_14 (by decide) ?_
      refine lv_goto (tgt := 25) hx hb dZ_next0_15 (by decide) ?_
      exact hend he _ (by rw [hem, rk_pb_m, nI_0]) H locs hP hD hS ls hl
  refine lv_iload_n hx hb dZ_next0_0 rfl (lv_at hl 1 rfl) ?_
  refine lv_iconst (v := (-1)) hx hb dZ_next0_1 (by decide) ?_
  refine lv_icmp_eq (tgt := 10) hx hb dZ_next0_2 (by decide) (fun h3 => ?_) (fun h3 => ?_)
  · exact hgo (Or.inl h3) s.heap [] hP hD hS ls hl
  · refine lv_aload_n hx hb dZ_next0_5 rfl (lv_at hl 0 rfl) ?_
    refine lv_iload_n hx hb dZ_next0_6 rfl (lv_at hl 1 rfl) ?_
    by_cases he : rk_E ee cn
    · refine r_v (rm := ({ frames := 0, cells := 0, slots := 0, locals := 0 } : Room)) (As := [.int ee]) (rest := []) (j_th_ok l D ad cI cJ p0 p1 p2 p3 p4 h r1 f1 s1 R F S cn th ee he) SC (cwV 1 hts gZ_next0_Z_there rfl rfl rfl (by decide +kernel) ⟨Nat.le_of_ble_eq_true rfl, Nat.le_of_ble_eq_true rfl⟩) hP hK hD hS hA hX 5 rfl rfl rfl hl.1 rfl (Nat.le_of_ble_eq_true rfl) dZ_next0_7 ⟨Nat.le_of_ble_eq_true rfl, Nat.le_of_ble_eq_true rfl⟩ (fun H locs hP hD hS => ?_)
      have hP : va_P D vwD (wM p0 p1 p2 p3 p4 h r1 f1 s1 cI R F S cn th) H := hP
      have hD : va_D A (wM p0 p1 p2 p3 p4 h r1 f1 s1 cI R F S cn th) := hD
      exact hgo (Or.inr he) H locs hP hD hS ls hl
    · exact r_x (rm := ({ frames := 6, cells := 1, slots := 6, locals := 100 } : Room)) (As := [.int ee]) (rest := []) (j_th_bad l D ad cI cJ p0 p1 p2 p3 p4 h r1 f1 s1 R F S cn th ee hl9 he) SC (cwV 1 hts gZ_next0_Z_there rfl rfl rfl (by decide +kernel) ⟨Nat.le_of_ble_eq_true rfl, Nat.le_of_ble_eq_true rfl⟩) hP hK hD hS hA hX 5 rfl rfl rfl hl.1 rfl (Nat.le_of_ble_eq_true rfl) dZ_next0_7 ⟨Nat.le_of_ble_eq_true rfl, Nat.le_of_ble_eq_true rfl⟩ hex hlocks (rk_kN_2 (fun q => q.1.elim h3 he)).symm (Nat.le_of_ble_eq_true rfl) (Nat.le_of_ble_eq_true rfl)
set_option maxHeartbeats 4000000 in
set_option maxRecDepth 100000 in
theorem j_place (l : Launch) (D : va_G) (ad : Nat → Nat) (cI cJ : ClassId) (p0 p1 p2 p3 p4 : Nat × va_E) (h r1 f1 s1 : Nat) (R F S : Nat → Int32) (cn : Nat) (th : Int32) (ee : Int32) (hl9 : l.stackTraces = false) (hR : rk_ok R cn) : uT l yZ_place0 wsZ_place0 ({ frames := 7, cells := 1, slots := 6, locals := 140 } : Room) D ad [(cI, .int), (cJ, .long)] [.ref h, .int ee] (wM p0 p1 p2 p3 p4 h r1 f1 s1 cI R F S cn th) (wM p0 p1 p2 p3 p4 h r1 f1 s1 cI R F S cn th) (rk_kP ee cn) (nI (rk_pl R ee cn)) := by
  unfold uT
  refine st_T (Qc := qT D [(cI, .int), (cJ, .long)] (wM p0 p1 p2 p3 p4 h r1 f1 s1 cI R F S cn th) (rk_kP ee cn) (nI (rk_pl R ee cn))) (XC := xT D [(cI, .int), (cJ, .long)] (wM p0 p1 p2 p3 p4 h r1 f1 s1 cI R F S cn th) (rk_kP ee cn)) (mc := 1) (ms := 6) (cc := cZ_place0) (maxL := 2) (ret := (some .int)) [.ref h, .int ee] (by decide) rfl (Nat.le_of_ble_eq_true rfl) (fun p en s m below meth c A ls hex hx hb hr hlocks hml hts hown hA hS hP hK hD hX hl => ?_)
  have hown : s.vm.findClass RZ = some m.cls := hown
  have hl : lv_has ls 2 [(0, .ref h), (1, .int ee)] := hl
  have SC : CallFix p m c cZ_place0 2 s ([.ref h, .int ee] : List Value).toArray wsZ_place0 RZ := ⟨hx, hb, hml, hown, hts⟩
  have hc := hR.1
  refine lv_aload_n hx hb dZ_place0_0 rfl (lv_at hl 0 rfl) ?_
  refine lv_iload_n hx hb dZ_place0_1 rfl (lv_at hl 1 rfl) ?_
  by_cases he : rk_E ee cn
  · refine r_v (rm := ({ frames := 0, cells := 0, slots := 0, locals := 0 } : Room)) (As := [.int ee]) (rest := []) (j_th_ok l D ad cI cJ p0 p1 p2 p3 p4 h r1 f1 s1 R F S cn th ee he) SC (cwV 1 hts gZ_place0_Z_there rfl rfl rfl (by decide +kernel) ⟨Nat.le_of_ble_eq_true rfl, Nat.le_of_ble_eq_true rfl⟩) hP hK hD hS hA hX 5 rfl rfl rfl hl.1 rfl (Nat.le_of_ble_eq_true rfl) dZ_place0_2 ⟨Nat.le_of_ble_eq_true rfl, Nat.le_of_ble_eq_true rfl⟩ (fun H locs hP hD hS => ?_)
    have hP : va_P D vwD (wM p0 p1 p2 p3 p4 h r1 f1 s1 cI R F S cn th) H := hP
    have hD : va_D A (wM p0 p1 p2 p3 p4 h r1 f1 s1 cI R F S cn th) := hD
    refine lv_aload_n hx hb dZ_place0_5 rfl (lv_at hl 0 rfl) ?_
    refine lv_iload_n hx hb dZ_place0_6 rfl (lv_at hl 1 rfl) ?_
    refine r_i (rm := ({ frames := 0, cells := 0, slots := 0, locals := 0 } : Room)) (As := [.int ee]) (rest := []) (j_ir l D ad cI cJ p0 p1 p2 p3 p4 h r1 f1 s1 R F S cn th ee hc (rk_pl_E hR he)) SC (cwV 1 hts gZ_place0_Z_inRow rfl rfl rfl (by decide +kernel) ⟨Nat.le_of_ble_eq_true rfl, Nat.le_of_ble_eq_true rfl⟩) hP hK hD hS hA hX 5 rfl rfl rfl hl.1 rfl (Nat.le_of_ble_eq_true rfl) dZ_place0_7 ⟨Nat.le_of_ble_eq_true rfl, Nat.le_of_ble_eq_true rfl⟩ (fun H locs hP hD hS => ?_)
    have hP : va_P D vwD (wM p0 p1 p2 p3 p4 h r1 f1 s1 cI R F S cn th) H := hP
    have hD : va_D A (wM p0 p1 p2 p3 p4 h r1 f1 s1 cI R F S cn th) := hD
    exact e_t hx hb hr hlocks (rk_kP_0 he) hP hK hD hS dZ_place0_10 (Nat.le_of_ble_eq_true rfl) (Nat.le_of_ble_eq_true rfl)
  · exact r_x (rm := ({ frames := 6, cells := 1, slots := 6, locals := 100 } : Room)) (As := [.int ee]) (rest := []) (j_th_bad l D ad cI cJ p0 p1 p2 p3 p4 h r1 f1 s1 R F S cn th ee hl9 he) SC (cwV 1 hts gZ_place0_Z_there rfl rfl rfl (by decide +kernel) ⟨Nat.le_of_ble_eq_true rfl, Nat.le_of_ble_eq_true rfl⟩) hP hK hD hS hA hX 5 rfl rfl rfl hl.1 rfl (Nat.le_of_ble_eq_true rfl) dZ_place0_2 ⟨Nat.le_of_ble_eq_true rfl, Nat.le_of_ble_eq_true rfl⟩ hex hlocks (rk_kP_2 he).symm (Nat.le_of_ble_eq_true rfl) (Nat.le_of_ble_eq_true rfl)
end
section
/-! The reference: its public methods -/
set_option maxHeartbeats 4000000 in
set_option maxRecDepth 100000 in
theorem p_behind_ok (l : Launch) (D : va_G) (ad : Nat → Nat) (cI cJ : ClassId) (p0 p1 p2 p3 p4 : Nat × va_E) (h r1 f1 s1 : Nat) (R F S : Nat → Int32) (cn : Nat) (th : Int32) (ee n a b : Int32) (hl9 : l.stackTraces = false) (hR : rk_ok R cn) (hk : rk_kB ee n a b cn = 0) : uI l yZ_behind wsZ_behind ({ frames := 8, cells := 1, slots := 6, locals := 180 } : Room) D ad [(cI, .int), (cJ, .long)] [.ref h, .int ee, .int n, .int a, .int b] (wM p0 p1 p2 p3 p4 h r1 f1 s1 cI R F S cn th) (wM p0 p1 p2 p3 p4 h r1 f1 s1 cI (rk_in R cn (rk_pb R ee cn) n.toNatClampNeg) (rk_fl F cn n.toNatClampNeg a) (rk_fl S cn n.toNatClampNeg b) (cn + n.toNatClampNeg) 0) (nI (cn + n.toNatClampNeg) - 1) 1 6 := by
  unfold uI
  refine st_W (Qc := qI D [(cI, .int), (cJ, .long)] (wM p0 p1 p2 p3 p4 h r1 f1 s1 cI (rk_in R cn (rk_pb R ee cn) n.toNatClampNeg) (rk_fl F cn n.toNatClampNeg a) (rk_fl S cn n.toNatClampNeg b) (cn + n.toNatClampNeg) 0) (nI (cn + n.toNatClampNeg) - 1)) (hh := [(5, 14, 15, 19), (5, 14, 25, 26), (5, 14, 35, 41)]) (mc := 1) (ms := 6) (cc := cZ_behind) (maxL := 6) (ret := (some .int)) [.ref h, .int ee, .int n, .int a, .int b] (by decide) rfl (Nat.le_of_ble_eq_true rfl) (fun p en s m below meth c A ls hTab hx hb hr hlocks hml hts hown hA hS hP hK hD hX hl => ?_)
  have hown : s.vm.findClass RZ = some m.cls := hown
  have hl : lv_has ls 6 [(0, .ref h), (1, .int ee), (2, .int n), (3, .int a), (4, .int b)] := hl
  have hu : ∀ w ∈ u_ws RZ TZ 5, w ∈ wsZ_behind := fun w h => List.mem_cons_of_mem _ (wsZ0_in w h)
  have hF52 := hts (.fieldLink RZ 52 "RankRowsModel" "thrown" "I") (by decide +kernel)
  have SC : CallFix p m c cZ_behind 6 s ([.ref h, .int ee, .int n, .int a, .int b] : List Value).toArray wsZ_behind RZ := ⟨hx, hb, hml, hown, hts⟩
  refine lv_aload_n hx hb dZ_behind_0 rfl (lv_at hl 0 rfl) ?_
  refine lv_iconst (v := 0) hx hb dZ_behind_1 (by decide) ?_
  refine va_put (D := D) (ci := 1) (v := .int 0) (ty := .int) (C := RZ) (T := TZ) (N := 5) hx hb hts hu tyZ tyZ_ok nmZ hown hK hP hD hS 5 rfl rfl 4 (by decide) hF52 (fun _ h9 => h9) rfl (by decide +kernel) rfl rfl (Nat.le_of_ble_eq_true rfl) dZ_behind_2 (fun H locs hP hD hS => ?_)
  have hP : va_P D vwD (wM p0 p1 p2 p3 p4 h r1 f1 s1 cI R F S cn 0) H := hP
  have hD : va_D A (wM p0 p1 p2 p3 p4 h r1 f1 s1 cI R F S cn 0) := hD
  refine lv_aload_n hx hb dZ_behind_5 rfl (lv_at hl 0 rfl) ?_
  refine lv_iload_n hx hb dZ_behind_6 rfl (lv_at hl 1 rfl) ?_
  refine lv_iload_n hx hb dZ_behind_7 rfl (lv_at hl 2 rfl) ?_
  refine lv_iload_n hx hb dZ_behind_8 rfl (lv_at hl 3 rfl) ?_
  refine lv_iload hx hb dZ_behind_9 (lv_at hl 4 rfl) ?_
  refine r_c (rm := ({ frames := 7, cells := 1, slots := 6, locals := 140 } : Room)) (As := [.int ee, .int n, .int a, .int b]) (rest := []) (j_behind l D ad cI cJ p0 p1 p2 p3 p4 h r1 f1 s1 R F S cn 0 ee n a b hl9 hR) SC (cwV 4 hts gZ_behind_Z_behind0 rfl rfl rfl (by decide +kernel) ⟨Nat.le_of_ble_eq_true rfl, Nat.le_of_ble_eq_true rfl⟩) hP hK hD hS hA hX 5 rfl rfl rfl hl.1 rfl (Nat.le_of_ble_eq_true rfl) dZ_behind_11 ⟨Nat.le_of_ble_eq_true rfl, Nat.le_of_ble_eq_true rfl⟩ (fun E ce q9 H locs hk0 _ _ _ _ _ _ _ => absurd hk hk0) (fun H locs _ hP hD hS => ?_)
  exact e_i hx hb hr hlocks hP hK hD hS dZ_behind_14 (Nat.le_of_ble_eq_true rfl) (Nat.le_of_ble_eq_true rfl)
set_option maxHeartbeats 4000000 in
set_option maxRecDepth 100000 in
theorem p_behind_bad (l : Launch) (D : va_G) (ad : Nat → Nat) (cI cJ : ClassId) (p0 p1 p2 p3 p4 : Nat × va_E) (h r1 f1 s1 : Nat) (R F S : Nat → Int32) (cn : Nat) (th : Int32) (ee n a b : Int32) (hl9 : l.stackTraces = false) (hR : rk_ok R cn) (hk : rk_kB ee n a b cn ≠ 0) : uI l yZ_behind wsZ_behind ({ frames := 8, cells := 1, slots := 6, locals := 180 } : Room) D ad [(cI, .int), (cJ, .long)] [.ref h, .int ee, .int n, .int a, .int b] (wM p0 p1 p2 p3 p4 h r1 f1 s1 cI R F S cn th) (wM p0 p1 p2 p3 p4 h r1 f1 s1 cI R F S cn (nI (rk_kB ee n a b cn))) (0) 1 6 := by
  unfold uI
  refine st_W (Qc := qI D [(cI, .int), (cJ, .long)] (wM p0 p1 p2 p3 p4 h r1 f1 s1 cI R F S cn (nI (rk_kB ee n a b cn))) 0) (hh := [(5, 14, 15, 19), (5, 14, 25, 26), (5, 14, 35, 41)]) (mc := 1) (ms := 6) (cc := cZ_behind) (maxL := 6) (ret := (some .int)) [.ref h, .int ee, .int n, .int a, .int b] (by decide) rfl (Nat.le_of_ble_eq_true rfl) (fun p en s m below meth c A ls hTab hx hb hr hlocks hml hts hown hA hS hP hK hD hX hl => ?_)
  have hown : s.vm.findClass RZ = some m.cls := hown
  have hl : lv_has ls 6 [(0, .ref h), (1, .int ee), (2, .int n), (3, .int a), (4, .int b)] := hl
  have hu : ∀ w ∈ u_ws RZ TZ 5, w ∈ wsZ_behind := fun w h => List.mem_cons_of_mem _ (wsZ0_in w h)
  have hF52 := hts (.fieldLink RZ 52 "RankRowsModel" "thrown" "I") (by decide +kernel)
  have SC : CallFix p m c cZ_behind 6 s ([.ref h, .int ee, .int n, .int a, .int b] : List Value).toArray wsZ_behind RZ := ⟨hx, hb, hml, hown, hts⟩
  refine lv_aload_n hx hb dZ_behind_0 rfl (lv_at hl 0 rfl) ?_
  refine lv_iconst (v := 0) hx hb dZ_behind_1 (by decide) ?_
  refine va_put (D := D) (ci := 1) (v := .int 0) (ty := .int) (C := RZ) (T := TZ) (N := 5) hx hb hts hu tyZ tyZ_ok nmZ hown hK hP hD hS 5 rfl rfl 4 (by decide) hF52 (fun _ h9 => h9) rfl (by decide +kernel) rfl rfl (Nat.le_of_ble_eq_true rfl) dZ_behind_2 (fun H locs hP hD hS => ?_)
  have hP : va_P D vwD (wM p0 p1 p2 p3 p4 h r1 f1 s1 cI R F S cn 0) H := hP
  have hD : va_D A (wM p0 p1 p2 p3 p4 h r1 f1 s1 cI R F S cn 0) := hD
  refine lv_aload_n hx hb dZ_behind_5 rfl (lv_at hl 0 rfl) ?_
  refine lv_iload_n hx hb dZ_behind_6 rfl (lv_at hl 1 rfl) ?_
  refine lv_iload_n hx hb dZ_behind_7 rfl (lv_at hl 2 rfl) ?_
  refine lv_iload_n hx hb dZ_behind_8 rfl (lv_at hl 3 rfl) ?_
  refine lv_iload hx hb dZ_behind_9 (lv_at hl 4 rfl) ?_
  refine r_c (rm := ({ frames := 7, cells := 1, slots := 6, locals := 140 } : Room)) (As := [.int ee, .int n, .int a, .int b]) (rest := []) (j_behind l D ad cI cJ p0 p1 p2 p3 p4 h r1 f1 s1 R F S cn 0 ee n a b hl9 hR) SC (cwV 4 hts gZ_behind_Z_behind0 rfl rfl rfl (by decide +kernel) ⟨Nat.le_of_ble_eq_true rfl, Nat.le_of_ble_eq_true rfl⟩) hP hK hD hS hA hX 5 rfl rfl rfl hl.1 rfl (Nat.le_of_ble_eq_true rfl) dZ_behind_11 ⟨Nat.le_of_ble_eq_true rfl, Nat.le_of_ble_eq_true rfl⟩ (fun E ce q9 H locs _ hE hP hD hS hce hcv hcl => ?_) (fun H locs hk0 _ _ _ => absurd hk0 hk)
  rcases rk_kB_r ee n a b cn with h9 | h9 | h9 | h9
  · exact absurd h9 hk
  · have hE : E = "java/lang/IllegalArgumentException" := by rw [hE, h9]; rfl
    subst hE
    refine vx_catch (own := RZ) (name := "java/lang/IllegalArgumentException") (E := "java/lang/IllegalArgumentException") hown [] ⟨5, 14, 15, 19⟩ [⟨5, 14, 25, 26⟩, ⟨5, 14, 35, 41⟩] (by rw [hTab]; rfl) (fun z hz => nomatch hz) (by decide) (by decide) (hts (.classLink RZ 19 "java/lang/IllegalArgumentException") (by decide +kernel)) (va_Nw.use rfl (hX.2.1 _ (List.mem_of_getElem? (i := 0) rfl))) hce hcv hcl ?_
    refine lv_astore (lv' := [(5, .ref q9), (0, .ref h), (1, .int ee), (2, .int n), (3, .int a), (4, .int b)]) hx hb dZ_behind_15 hl (by decide) rfl (fun ls hl => ?_)
    refine lv_aload_n hx hb dZ_behind_17 rfl (lv_at hl 1 rfl) ?_
    refine lv_iconst (v := 1) hx hb dZ_behind_18 (by decide) ?_
    refine va_put (D := D) (ci := 1) (v := .int 1) (ty := .int) (C := RZ) (T := TZ) (N := 5) hx hb hts hu tyZ tyZ_ok nmZ hown hK hP hD hS 5 rfl rfl 4 (by decide) hF52 (fun _ h9 => h9) rfl (by decide +kernel) rfl rfl (Nat.le_of_ble_eq_true rfl) dZ_behind_19 (fun H locs hP hD hS => ?_)
    have hP : va_P D vwD (wM p0 p1 p2 p3 p4 h r1 f1 s1 cI R F S cn 1) H := hP
    have hD : va_D A (wM p0 p1 p2 p3 p4 h r1 f1 s1 cI R F S cn 1) := hD
    refine lv_goto (tgt := 42) hx hb dZ_behind_22 (by decide) ?_
    refine lv_iconst (v := 0) hx hb dZ_behind_42 (by decide) ?_
    have hP : va_P D vwD (wM p0 p1 p2 p3 p4 h r1 f1 s1 cI R F S cn (nI (rk_kB ee n a b cn))) H := by rw [h9]; exact hP
    have hD : va_D A (wM p0 p1 p2 p3 p4 h r1 f1 s1 cI R F S cn (nI (rk_kB ee n a b cn))) := by rw [h9]; exact hD
    exact e_i hx hb hr hlocks hP hK hD hS dZ_behind_43 (Nat.le_of_ble_eq_true rfl) (Nat.le_of_ble_eq_true rfl)
  · have hE : E = "java/util/NoSuchElementException" := by rw [hE, h9]; rfl
    subst hE
    refine vx_catch (own := RZ) (name := "java/util/NoSuchElementException") (E := "java/util/NoSuchElementException") hown [⟨5, 14, 15, 19⟩] ⟨5, 14, 25, 26⟩ [⟨5, 14, 35, 41⟩] (by rw [hTab]; rfl) (by
        intro z hz
        rcases List.mem_cons.mp hz with rfl | hz
        · exact Or.inr ⟨by decide, "java/lang/IllegalArgumentException", hts (.classLink RZ 19 "java/lang/IllegalArgumentException") (by decide +kernel), hX.2.2.2.1.1⟩
        cases hz) (by decide) (by decide) (hts (.classLink RZ 26 "java/util/NoSuchElementException") (by decide +kernel)) (va_Nw.use rfl (hX.2.1 _ (List.mem_of_getElem? (i := 1) rfl))) hce hcv hcl ?_
    refine lv_astore (lv' := [(5, .ref q9), (0, .ref h), (1, .int ee), (2, .int n), (3, .int a), (4, .int b)]) hx hb dZ_behind_25 hl (by decide) rfl (fun ls hl => ?_)
    refine lv_aload_n hx hb dZ_behind_27 rfl (lv_at hl 1 rfl) ?_
    refine lv_iconst (v := 2) hx hb dZ_behind_28 (by decide) ?_
    refine va_put (D := D) (ci := 1) (v := .int 2) (ty := .int) (C := RZ) (T := TZ) (N := 5) hx hb hts hu tyZ tyZ_ok nmZ hown hK hP hD hS 5 rfl rfl 4 (by decide) hF52 (fun _ h9 => h9) rfl (by decide +kernel) rfl rfl (Nat.le_of_ble_eq_true rfl) dZ_behind_29 (fun H locs hP hD hS => ?_)
    have hP : va_P D vwD (wM p0 p1 p2 p3 p4 h r1 f1 s1 cI R F S cn 2) H := hP
    have hD : va_D A (wM p0 p1 p2 p3 p4 h r1 f1 s1 cI R F S cn 2) := hD
    refine lv_goto (tgt := 42) hx hb dZ_behind_32 (by decide) ?_
    refine lv_iconst (v := 0) hx hb dZ_behind_42 (by decide) ?_
    have hP : va_P D vwD (wM p0 p1 p2 p3 p4 h r1 f1 s1 cI R F S cn (nI (rk_kB ee n a b cn))) H := by rw [h9]; exact hP
    have hD : va_D A (wM p0 p1 p2 p3 p4 h r1 f1 s1 cI R F S cn (nI (rk_kB ee n a b cn))) := by rw [h9]; exact hD
    exact e_i hx hb hr hlocks hP hK hD hS dZ_behind_43 (Nat.le_of_ble_eq_true rfl) (Nat.le_of_ble_eq_true rfl)
  · have hE : E = "java/lang/IllegalStateException" := by rw [hE, h9]; rfl
    subst hE
    refine vx_catch (own := RZ) (name := "java/lang/IllegalStateException") (E := "java/lang/IllegalStateException") hown [⟨5, 14, 15, 19⟩, ⟨5, 14, 25, 26⟩] ⟨5, 14, 35, 41⟩ [] (by rw [hTab]; rfl) (by
        intro z hz
        rcases List.mem_cons.mp hz with rfl | hz
        · exact Or.inr ⟨by decide, "java/lang/IllegalArgumentException", hts (.classLink RZ 19 "java/lang/IllegalArgumentException") (by decide +kernel), hX.2.2.2.1.2.1⟩
        rcases List.mem_cons.mp hz with rfl | hz
        · exact Or.inr ⟨by decide, "java/util/NoSuchElementException", hts (.classLink RZ 26 "java/util/NoSuchElementException") (by decide +kernel), hX.2.2.2.1.2.2⟩
        cases hz) (by decide) (by decide) (hts (.classLink RZ 41 "java/lang/IllegalStateException") (by decide +kernel)) (va_Nw.use rfl (hX.2.1 _ (List.mem_of_getElem? (i := 2) rfl))) hce hcv hcl ?_
    refine lv_astore (lv' := [(5, .ref q9), (0, .ref h), (1, .int ee), (2, .int n), (3, .int a), (4, .int b)]) hx hb dZ_behind_35 hl (by decide) rfl (fun ls hl => ?_)
    refine lv_aload_n hx hb dZ_behind_37 rfl (lv_at hl 1 rfl) ?_
    refine lv_iconst (v := 3) hx hb dZ_behind_38 (by decide) ?_
    refine va_put (D := D) (ci := 1) (v := .int 3) (ty := .int) (C := RZ) (T := TZ) (N := 5) hx hb hts hu tyZ tyZ_ok nmZ hown hK hP hD hS 5 rfl rfl 4 (by decide) hF52 (fun _ h9 => h9) rfl (by decide +kernel) rfl rfl (Nat.le_of_ble_eq_true rfl) dZ_behind_39 (fun H locs hP hD hS => ?_)
    have hP : va_P D vwD (wM p0 p1 p2 p3 p4 h r1 f1 s1 cI R F S cn 3) H := hP
    have hD : va_D A (wM p0 p1 p2 p3 p4 h r1 f1 s1 cI R F S cn 3) := hD
    refine lv_iconst (v := 0) hx hb dZ_behind_42 (by decide) ?_
    have hP : va_P D vwD (wM p0 p1 p2 p3 p4 h r1 f1 s1 cI R F S cn (nI (rk_kB ee n a b cn))) H := by rw [h9]; exact hP
    have hD : va_D A (wM p0 p1 p2 p3 p4 h r1 f1 s1 cI R F S cn (nI (rk_kB ee n a b cn))) := by rw [h9]; exact hD
    exact e_i hx hb hr hlocks hP hK hD hS dZ_behind_43 (Nat.le_of_ble_eq_true rfl) (Nat.le_of_ble_eq_true rfl)
set_option maxHeartbeats 4000000 in
set_option maxRecDepth 100000 in
theorem p_before_ok (l : Launch) (D : va_G) (ad : Nat → Nat) (cI cJ : ClassId) (p0 p1 p2 p3 p4 : Nat × va_E) (h r1 f1 s1 : Nat) (R F S : Nat → Int32) (cn : Nat) (th : Int32) (ee a b : Int32) (hl9 : l.stackTraces = false) (hR : rk_ok R cn) (hk : rk_kF ee a b cn = 0) : uI l yZ_before wsZ_before ({ frames := 8, cells := 1, slots := 6, locals := 180 } : Room) D ad [(cI, .int), (cJ, .long)] [.ref h, .int ee, .int a, .int b] (wM p0 p1 p2 p3 p4 h r1 f1 s1 cI R F S cn th) (wM p0 p1 p2 p3 p4 h r1 f1 s1 cI (rk_in R cn (rk_pl R ee cn) 1) (rk_fl F cn 1 a) (rk_fl S cn 1 b) (cn + 1) 0) (nI (cn + 1) - 1) 1 6 := by
  unfold uI
  refine st_W (Qc := qI D [(cI, .int), (cJ, .long)] (wM p0 p1 p2 p3 p4 h r1 f1 s1 cI (rk_in R cn (rk_pl R ee cn) 1) (rk_fl F cn 1 a) (rk_fl S cn 1 b) (cn + 1) 0) (nI (cn + 1) - 1)) (hh := [(5, 12, 13, 19), (5, 12, 23, 26), (5, 12, 33, 41)]) (mc := 1) (ms := 6) (cc := cZ_before) (maxL := 5) (ret := (some .int)) [.ref h, .int ee, .int a, .int b] (by decide) rfl (Nat.le_of_ble_eq_true rfl) (fun p en s m below meth c A ls hTab hx hb hr hlocks hml hts hown hA hS hP hK hD hX hl => ?_)
  have hown : s.vm.findClass RZ = some m.cls := hown
  have hl : lv_has ls 5 [(0, .ref h), (1, .int ee), (2, .int a), (3, .int b)] := hl
  have hu : ∀ w ∈ u_ws RZ TZ 5, w ∈ wsZ_before := fun w h => List.mem_cons_of_mem _ (wsZ0_in w h)
  have hF52 := hts (.fieldLink RZ 52 "RankRowsModel" "thrown" "I") (by decide +kernel)
  have SC : CallFix p m c cZ_before 5 s ([.ref h, .int ee, .int a, .int b] : List Value).toArray wsZ_before RZ := ⟨hx, hb, hml, hown, hts⟩
  refine lv_aload_n hx hb dZ_before_0 rfl (lv_at hl 0 rfl) ?_
  refine lv_iconst (v := 0) hx hb dZ_before_1 (by decide) ?_
  refine va_put (D := D) (ci := 1) (v := .int 0) (ty := .int) (C := RZ) (T := TZ) (N := 5) hx hb hts hu tyZ tyZ_ok nmZ hown hK hP hD hS 5 rfl rfl 4 (by decide) hF52 (fun _ h9 => h9) rfl (by decide +kernel) rfl rfl (Nat.le_of_ble_eq_true rfl) dZ_before_2 (fun H locs hP hD hS => ?_)
  have hP : va_P D vwD (wM p0 p1 p2 p3 p4 h r1 f1 s1 cI R F S cn 0) H := hP
  have hD : va_D A (wM p0 p1 p2 p3 p4 h r1 f1 s1 cI R F S cn 0) := hD
  refine lv_aload_n hx hb dZ_before_5 rfl (lv_at hl 0 rfl) ?_
  refine lv_iload_n hx hb dZ_before_6 rfl (lv_at hl 1 rfl) ?_
  refine lv_iload_n hx hb dZ_before_7 rfl (lv_at hl 2 rfl) ?_
  refine lv_iload_n hx hb dZ_before_8 rfl (lv_at hl 3 rfl) ?_
  refine r_c (rm := ({ frames := 7, cells := 1, slots := 6, locals := 140 } : Room)) (As := [.int ee, .int a, .int b]) (rest := []) (j_before l D ad cI cJ p0 p1 p2 p3 p4 h r1 f1 s1 R F S cn 0 ee a b hl9 hR) SC (cwV 3 hts gZ_before_Z_before0 rfl rfl rfl (by decide +kernel) ⟨Nat.le_of_ble_eq_true rfl, Nat.le_of_ble_eq_true rfl⟩) hP hK hD hS hA hX 5 rfl rfl rfl hl.1 rfl (Nat.le_of_ble_eq_true rfl) dZ_before_9 ⟨Nat.le_of_ble_eq_true rfl, Nat.le_of_ble_eq_true rfl⟩ (fun E ce q9 H locs hk0 _ _ _ _ _ _ _ => absurd hk hk0) (fun H locs _ hP hD hS => ?_)
  exact e_i hx hb hr hlocks hP hK hD hS dZ_before_12 (Nat.le_of_ble_eq_true rfl) (Nat.le_of_ble_eq_true rfl)
set_option maxHeartbeats 4000000 in
set_option maxRecDepth 100000 in
theorem p_before_bad (l : Launch) (D : va_G) (ad : Nat → Nat) (cI cJ : ClassId) (p0 p1 p2 p3 p4 : Nat × va_E) (h r1 f1 s1 : Nat) (R F S : Nat → Int32) (cn : Nat) (th : Int32) (ee a b : Int32) (hl9 : l.stackTraces = false) (hR : rk_ok R cn) (hk : rk_kF ee a b cn ≠ 0) : uI l yZ_before wsZ_before ({ frames := 8, cells := 1, slots := 6, locals := 180 } : Room) D ad [(cI, .int), (cJ, .long)] [.ref h, .int ee, .int a, .int b] (wM p0 p1 p2 p3 p4 h r1 f1 s1 cI R F S cn th) (wM p0 p1 p2 p3 p4 h r1 f1 s1 cI R F S cn (nI (rk_kF ee a b cn))) (0) 1 6 := by
  unfold uI
  refine st_W (Qc := qI D [(cI, .int), (cJ, .long)] (wM p0 p1 p2 p3 p4 h r1 f1 s1 cI R F S cn (nI (rk_kF ee a b cn))) 0) (hh := [(5, 12, 13, 19), (5, 12, 23, 26), (5, 12, 33, 41)]) (mc := 1) (ms := 6) (cc := cZ_before) (maxL := 5) (ret := (some .int)) [.ref h, .int ee, .int a, .int b] (by decide) rfl (Nat.le_of_ble_eq_true rfl) (fun p en s m below meth c A ls hTab hx hb hr hlocks hml hts hown hA hS hP hK hD hX hl => ?_)
  have hown : s.vm.findClass RZ = some m.cls := hown
  have hl : lv_has ls 5 [(0, .ref h), (1, .int ee), (2, .int a), (3, .int b)] := hl
  have hu : ∀ w ∈ u_ws RZ TZ 5, w ∈ wsZ_before := fun w h => List.mem_cons_of_mem _ (wsZ0_in w h)
  have hF52 := hts (.fieldLink RZ 52 "RankRowsModel" "thrown" "I") (by decide +kernel)
  have SC : CallFix p m c cZ_before 5 s ([.ref h, .int ee, .int a, .int b] : List Value).toArray wsZ_before RZ := ⟨hx, hb, hml, hown, hts⟩
  refine lv_aload_n hx hb dZ_before_0 rfl (lv_at hl 0 rfl) ?_
  refine lv_iconst (v := 0) hx hb dZ_before_1 (by decide) ?_
  refine va_put (D := D) (ci := 1) (v := .int 0) (ty := .int) (C := RZ) (T := TZ) (N := 5) hx hb hts hu tyZ tyZ_ok nmZ hown hK hP hD hS 5 rfl rfl 4 (by decide) hF52 (fun _ h9 => h9) rfl (by decide +kernel) rfl rfl (Nat.le_of_ble_eq_true rfl) dZ_before_2 (fun H locs hP hD hS => ?_)
  have hP : va_P D vwD (wM p0 p1 p2 p3 p4 h r1 f1 s1 cI R F S cn 0) H := hP
  have hD : va_D A (wM p0 p1 p2 p3 p4 h r1 f1 s1 cI R F S cn 0) := hD
  refine lv_aload_n hx hb dZ_before_5 rfl (lv_at hl 0 rfl) ?_
  refine lv_iload_n hx hb dZ_before_6 rfl (lv_at hl 1 rfl) ?_
  refine lv_iload_n hx hb dZ_before_7 rfl (lv_at hl 2 rfl) ?_
  refine lv_iload_n hx hb dZ_before_8 rfl (lv_at hl 3 rfl) ?_
  refine r_c (rm := ({ frames := 7, cells := 1, slots := 6, locals := 140 } : Room)) (As := [.int ee, .int a, .int b]) (rest := []) (j_before l D ad cI cJ p0 p1 p2 p3 p4 h r1 f1 s1 R F S cn 0 ee a b hl9 hR) SC (cwV 3 hts gZ_before_Z_before0 rfl rfl rfl (by decide +kernel) ⟨Nat.le_of_ble_eq_true rfl, Nat.le_of_ble_eq_true rfl⟩) hP hK hD hS hA hX 5 rfl rfl rfl hl.1 rfl (Nat.le_of_ble_eq_true rfl) dZ_before_9 ⟨Nat.le_of_ble_eq_true rfl, Nat.le_of_ble_eq_true rfl⟩ (fun E ce q9 H locs _ hE hP hD hS hce hcv hcl => ?_) (fun H locs hk0 _ _ _ => absurd hk0 hk)
  rcases rk_kF_r ee a b cn with h9 | h9 | h9 | h9
  · exact absurd h9 hk
  · have hE : E = "java/lang/IllegalArgumentException" := by rw [hE, h9]; rfl
    subst hE
    refine vx_catch (own := RZ) (name := "java/lang/IllegalArgumentException") (E := "java/lang/IllegalArgumentException") hown [] ⟨5, 12, 13, 19⟩ [⟨5, 12, 23, 26⟩, ⟨5, 12, 33, 41⟩] (by rw [hTab]; rfl) (fun z hz => nomatch hz) (by decide) (by decide) (hts (.classLink RZ 19 "java/lang/IllegalArgumentException") (by decide +kernel)) (va_Nw.use rfl (hX.2.1 _ (List.mem_of_getElem? (i := 0) rfl))) hce hcv hcl ?_
    refine lv_astore (lv' := [(4, .ref q9), (0, .ref h), (1, .int ee), (2, .int a), (3, .int b)]) hx hb dZ_before_13 hl (by decide) rfl (fun ls hl => ?_)
    refine lv_aload_n hx hb dZ_before_15 rfl (lv_at hl 1 rfl) ?_
    refine lv_iconst (v := 1) hx hb dZ_before_16 (by decide) ?_
    refine va_put (D := D) (ci := 1) (v := .int 1) (ty := .int) (C := RZ) (T := TZ) (N := 5) hx hb hts hu tyZ tyZ_ok nmZ hown hK hP hD hS 5 rfl rfl 4 (by decide) hF52 (fun _ h9 => h9) rfl (by decide +kernel) rfl rfl (Nat.le_of_ble_eq_true rfl) dZ_before_17 (fun H locs hP hD hS => ?_)
    have hP : va_P D vwD (wM p0 p1 p2 p3 p4 h r1 f1 s1 cI R F S cn 1) H := hP
    have hD : va_D A (wM p0 p1 p2 p3 p4 h r1 f1 s1 cI R F S cn 1) := hD
    refine lv_goto (tgt := 40) hx hb dZ_before_20 (by decide) ?_
    refine lv_iconst (v := 0) hx hb dZ_before_40 (by decide) ?_
    have hP : va_P D vwD (wM p0 p1 p2 p3 p4 h r1 f1 s1 cI R F S cn (nI (rk_kF ee a b cn))) H := by rw [h9]; exact hP
    have hD : va_D A (wM p0 p1 p2 p3 p4 h r1 f1 s1 cI R F S cn (nI (rk_kF ee a b cn))) := by rw [h9]; exact hD
    exact e_i hx hb hr hlocks hP hK hD hS dZ_before_41 (Nat.le_of_ble_eq_true rfl) (Nat.le_of_ble_eq_true rfl)
  · have hE : E = "java/util/NoSuchElementException" := by rw [hE, h9]; rfl
    subst hE
    refine vx_catch (own := RZ) (name := "java/util/NoSuchElementException") (E := "java/util/NoSuchElementException") hown [⟨5, 12, 13, 19⟩] ⟨5, 12, 23, 26⟩ [⟨5, 12, 33, 41⟩] (by rw [hTab]; rfl) (by
        intro z hz
        rcases List.mem_cons.mp hz with rfl | hz
        · exact Or.inr ⟨by decide, "java/lang/IllegalArgumentException", hts (.classLink RZ 19 "java/lang/IllegalArgumentException") (by decide +kernel), hX.2.2.2.1.1⟩
        cases hz) (by decide) (by decide) (hts (.classLink RZ 26 "java/util/NoSuchElementException") (by decide +kernel)) (va_Nw.use rfl (hX.2.1 _ (List.mem_of_getElem? (i := 1) rfl))) hce hcv hcl ?_
    refine lv_astore (lv' := [(4, .ref q9), (0, .ref h), (1, .int ee), (2, .int a), (3, .int b)]) hx hb dZ_before_23 hl (by decide) rfl (fun ls hl => ?_)
    refine lv_aload_n hx hb dZ_before_25 rfl (lv_at hl 1 rfl) ?_
    refine lv_iconst (v := 2) hx hb dZ_before_26 (by decide) ?_
    refine va_put (D := D) (ci := 1) (v := .int 2) (ty := .int) (C := RZ) (T := TZ) (N := 5) hx hb hts hu tyZ tyZ_ok nmZ hown hK hP hD hS 5 rfl rfl 4 (by decide) hF52 (fun _ h9 => h9) rfl (by decide +kernel) rfl rfl (Nat.le_of_ble_eq_true rfl) dZ_before_27 (fun H locs hP hD hS => ?_)
    have hP : va_P D vwD (wM p0 p1 p2 p3 p4 h r1 f1 s1 cI R F S cn 2) H := hP
    have hD : va_D A (wM p0 p1 p2 p3 p4 h r1 f1 s1 cI R F S cn 2) := hD
    refine lv_goto (tgt := 40) hx hb dZ_before_30 (by decide) ?_
    refine lv_iconst (v := 0) hx hb dZ_before_40 (by decide) ?_
    have hP : va_P D vwD (wM p0 p1 p2 p3 p4 h r1 f1 s1 cI R F S cn (nI (rk_kF ee a b cn))) H := by rw [h9]; exact hP
    have hD : va_D A (wM p0 p1 p2 p3 p4 h r1 f1 s1 cI R F S cn (nI (rk_kF ee a b cn))) := by rw [h9]; exact hD
    exact e_i hx hb hr hlocks hP hK hD hS dZ_before_41 (Nat.le_of_ble_eq_true rfl) (Nat.le_of_ble_eq_true rfl)
  · have hE : E = "java/lang/IllegalStateException" := by rw [hE, h9]; rfl
    subst hE
    refine vx_catch (own := RZ) (name := "java/lang/IllegalStateException") (E := "java/lang/IllegalStateException") hown [⟨5, 12, 13, 19⟩, ⟨5, 12, 23, 26⟩] ⟨5, 12, 33, 41⟩ [] (by rw [hTab]; rfl) (by
        intro z hz
        rcases List.mem_cons.mp hz with rfl | hz
        · exact Or.inr ⟨by decide, "java/lang/IllegalArgumentException", hts (.classLink RZ 19 "java/lang/IllegalArgumentException") (by decide +kernel), hX.2.2.2.1.2.1⟩
        rcases List.mem_cons.mp hz with rfl | hz
        · exact Or.inr ⟨by decide, "java/util/NoSuchElementException", hts (.classLink RZ 26 "java/util/NoSuchElementException") (by decide +kernel), hX.2.2.2.1.2.2⟩
        cases hz) (by decide) (by decide) (hts (.classLink RZ 41 "java/lang/IllegalStateException") (by decide +kernel)) (va_Nw.use rfl (hX.2.1 _ (List.mem_of_getElem? (i := 2) rfl))) hce hcv hcl ?_
    refine lv_astore (lv' := [(4, .ref q9), (0, .ref h), (1, .int ee), (2, .int a), (3, .int b)]) hx hb dZ_before_33 hl (by decide) rfl (fun ls hl => ?_)
    refine lv_aload_n hx hb dZ_before_35 rfl (lv_at hl 1 rfl) ?_
    refine lv_iconst (v := 3) hx hb dZ_before_36 (by decide) ?_
    refine va_put (D := D) (ci := 1) (v := .int 3) (ty := .int) (C := RZ) (T := TZ) (N := 5) hx hb hts hu tyZ tyZ_ok nmZ hown hK hP hD hS 5 rfl rfl 4 (by decide) hF52 (fun _ h9 => h9) rfl (by decide +kernel) rfl rfl (Nat.le_of_ble_eq_true rfl) dZ_before_37 (fun H locs hP hD hS => ?_)
    have hP : va_P D vwD (wM p0 p1 p2 p3 p4 h r1 f1 s1 cI R F S cn 3) H := hP
    have hD : va_D A (wM p0 p1 p2 p3 p4 h r1 f1 s1 cI R F S cn 3) := hD
    refine lv_iconst (v := 0) hx hb dZ_before_40 (by decide) ?_
    have hP : va_P D vwD (wM p0 p1 p2 p3 p4 h r1 f1 s1 cI R F S cn (nI (rk_kF ee a b cn))) H := by rw [h9]; exact hP
    have hD : va_D A (wM p0 p1 p2 p3 p4 h r1 f1 s1 cI R F S cn (nI (rk_kF ee a b cn))) := by rw [h9]; exact hD
    exact e_i hx hb hr hlocks hP hK hD hS dZ_before_41 (Nat.le_of_ble_eq_true rfl) (Nat.le_of_ble_eq_true rfl)
set_option maxHeartbeats 4000000 in
set_option maxRecDepth 100000 in
theorem p_weigh_ok (l : Launch) (D : va_G) (ad : Nat → Nat) (cI cJ : ClassId) (p0 p1 p2 p3 p4 : Nat × va_E) (h r1 f1 s1 : Nat) (R F S : Nat → Int32) (cn : Nat) (th : Int32) (ee a b : Int32) (hl9 : l.stackTraces = false) (hR : rk_ok R cn) (hk : rk_kW ee a b cn = 0) : uI l yZ_weigh wsZ_weigh ({ frames := 8, cells := 1, slots := 6, locals := 180 } : Room) D ad [(cI, .int), (cJ, .long)] [.ref h, .int ee, .int a, .int b] (wM p0 p1 p2 p3 p4 h r1 f1 s1 cI R F S cn th) (wM p0 p1 p2 p3 p4 h r1 f1 s1 cI R (upd F ee.toNatClampNeg a) (upd S ee.toNatClampNeg b) cn 0) (F ee.toNatClampNeg) 1 6 := by
  unfold uI
  refine st_W (Qc := qI D [(cI, .int), (cJ, .long)] (wM p0 p1 p2 p3 p4 h r1 f1 s1 cI R (upd F ee.toNatClampNeg a) (upd S ee.toNatClampNeg b) cn 0) (F ee.toNatClampNeg)) (hh := [(5, 12, 13, 19), (5, 12, 23, 26)]) (mc := 1) (ms := 6) (cc := cZ_weigh) (maxL := 5) (ret := (some .int)) [.ref h, .int ee, .int a, .int b] (by decide) rfl (Nat.le_of_ble_eq_true rfl) (fun p en s m below meth c A ls hTab hx hb hr hlocks hml hts hown hA hS hP hK hD hX hl => ?_)
  have hown : s.vm.findClass RZ = some m.cls := hown
  have hl : lv_has ls 5 [(0, .ref h), (1, .int ee), (2, .int a), (3, .int b)] := hl
  have hu : ∀ w ∈ u_ws RZ TZ 5, w ∈ wsZ_weigh := fun w h => List.mem_cons_of_mem _ (wsZ0_in w h)
  have hF52 := hts (.fieldLink RZ 52 "RankRowsModel" "thrown" "I") (by decide +kernel)
  have SC : CallFix p m c cZ_weigh 5 s ([.ref h, .int ee, .int a, .int b] : List Value).toArray wsZ_weigh RZ := ⟨hx, hb, hml, hown, hts⟩
  refine lv_aload_n hx hb dZ_weigh_0 rfl (lv_at hl 0 rfl) ?_
  refine lv_iconst (v := 0) hx hb dZ_weigh_1 (by decide) ?_
  refine va_put (D := D) (ci := 1) (v := .int 0) (ty := .int) (C := RZ) (T := TZ) (N := 5) hx hb hts hu tyZ tyZ_ok nmZ hown hK hP hD hS 5 rfl rfl 4 (by decide) hF52 (fun _ h9 => h9) rfl (by decide +kernel) rfl rfl (Nat.le_of_ble_eq_true rfl) dZ_weigh_2 (fun H locs hP hD hS => ?_)
  have hP : va_P D vwD (wM p0 p1 p2 p3 p4 h r1 f1 s1 cI R F S cn 0) H := hP
  have hD : va_D A (wM p0 p1 p2 p3 p4 h r1 f1 s1 cI R F S cn 0) := hD
  refine lv_aload_n hx hb dZ_weigh_5 rfl (lv_at hl 0 rfl) ?_
  refine lv_iload_n hx hb dZ_weigh_6 rfl (lv_at hl 1 rfl) ?_
  refine lv_iload_n hx hb dZ_weigh_7 rfl (lv_at hl 2 rfl) ?_
  refine lv_iload_n hx hb dZ_weigh_8 rfl (lv_at hl 3 rfl) ?_
  refine r_c (rm := ({ frames := 7, cells := 1, slots := 6, locals := 140 } : Room)) (As := [.int ee, .int a, .int b]) (rest := []) (j_weigh l D ad cI cJ p0 p1 p2 p3 p4 h r1 f1 s1 R F S cn 0 ee a b hl9 hR) SC (cwV 3 hts gZ_weigh_Z_weigh0 rfl rfl rfl (by decide +kernel) ⟨Nat.le_of_ble_eq_true rfl, Nat.le_of_ble_eq_true rfl⟩) hP hK hD hS hA hX 5 rfl rfl rfl hl.1 rfl (Nat.le_of_ble_eq_true rfl) dZ_weigh_9 ⟨Nat.le_of_ble_eq_true rfl, Nat.le_of_ble_eq_true rfl⟩ (fun E ce q9 H locs hk0 _ _ _ _ _ _ _ => absurd hk hk0) (fun H locs _ hP hD hS => ?_)
  exact e_i hx hb hr hlocks hP hK hD hS dZ_weigh_12 (Nat.le_of_ble_eq_true rfl) (Nat.le_of_ble_eq_true rfl)
set_option maxHeartbeats 4000000 in
set_option maxRecDepth 100000 in
theorem p_weigh_bad (l : Launch) (D : va_G) (ad : Nat → Nat) (cI cJ : ClassId) (p0 p1 p2 p3 p4 : Nat × va_E) (h r1 f1 s1 : Nat) (R F S : Nat → Int32) (cn : Nat) (th : Int32) (ee a b : Int32) (hl9 : l.stackTraces = false) (hR : rk_ok R cn) (hk : rk_kW ee a b cn ≠ 0) : uI l yZ_weigh wsZ_weigh ({ frames := 8, cells := 1, slots := 6, locals := 180 } : Room) D ad [(cI, .int), (cJ, .long)] [.ref h, .int ee, .int a, .int b] (wM p0 p1 p2 p3 p4 h r1 f1 s1 cI R F S cn th) (wM p0 p1 p2 p3 p4 h r1 f1 s1 cI R F S cn (nI (rk_kW ee a b cn))) (0) 1 6 := by
  unfold uI
  refine st_W (Qc := qI D [(cI, .int), (cJ, .long)] (wM p0 p1 p2 p3 p4 h r1 f1 s1 cI R F S cn (nI (rk_kW ee a b cn))) 0) (hh := [(5, 12, 13, 19), (5, 12, 23, 26)]) (mc := 1) (ms := 6) (cc := cZ_weigh) (maxL := 5) (ret := (some .int)) [.ref h, .int ee, .int a, .int b] (by decide) rfl (Nat.le_of_ble_eq_true rfl) (fun p en s m below meth c A ls hTab hx hb hr hlocks hml hts hown hA hS hP hK hD hX hl => ?_)
  have hown : s.vm.findClass RZ = some m.cls := hown
  have hl : lv_has ls 5 [(0, .ref h), (1, .int ee), (2, .int a), (3, .int b)] := hl
  have hu : ∀ w ∈ u_ws RZ TZ 5, w ∈ wsZ_weigh := fun w h => List.mem_cons_of_mem _ (wsZ0_in w h)
  have hF52 := hts (.fieldLink RZ 52 "RankRowsModel" "thrown" "I") (by decide +kernel)
  have SC : CallFix p m c cZ_weigh 5 s ([.ref h, .int ee, .int a, .int b] : List Value).toArray wsZ_weigh RZ := ⟨hx, hb, hml, hown, hts⟩
  refine lv_aload_n hx hb dZ_weigh_0 rfl (lv_at hl 0 rfl) ?_
  refine lv_iconst (v := 0) hx hb dZ_weigh_1 (by decide) ?_
  refine va_put (D := D) (ci := 1) (v := .int 0) (ty := .int) (C := RZ) (T := TZ) (N := 5) hx hb hts hu tyZ tyZ_ok nmZ hown hK hP hD hS 5 rfl rfl 4 (by decide) hF52 (fun _ h9 => h9) rfl (by decide +kernel) rfl rfl (Nat.le_of_ble_eq_true rfl) dZ_weigh_2 (fun H locs hP hD hS => ?_)
  have hP : va_P D vwD (wM p0 p1 p2 p3 p4 h r1 f1 s1 cI R F S cn 0) H := hP
  have hD : va_D A (wM p0 p1 p2 p3 p4 h r1 f1 s1 cI R F S cn 0) := hD
  refine lv_aload_n hx hb dZ_weigh_5 rfl (lv_at hl 0 rfl) ?_
  refine lv_iload_n hx hb dZ_weigh_6 rfl (lv_at hl 1 rfl) ?_
  refine lv_iload_n hx hb dZ_weigh_7 rfl (lv_at hl 2 rfl) ?_
  refine lv_iload_n hx hb dZ_weigh_8 rfl (lv_at hl 3 rfl) ?_
  refine r_c (rm := ({ frames := 7, cells := 1, slots := 6, locals := 140 } : Room)) (As := [.int ee, .int a, .int b]) (rest := []) (j_weigh l D ad cI cJ p0 p1 p2 p3 p4 h r1 f1 s1 R F S cn 0 ee a b hl9 hR) SC (cwV 3 hts gZ_weigh_Z_weigh0 rfl rfl rfl (by decide +kernel) ⟨Nat.le_of_ble_eq_true rfl, Nat.le_of_ble_eq_true rfl⟩) hP hK hD hS hA hX 5 rfl rfl rfl hl.1 rfl (Nat.le_of_ble_eq_true rfl) dZ_weigh_9 ⟨Nat.le_of_ble_eq_true rfl, Nat.le_of_ble_eq_true rfl⟩ (fun E ce q9 H locs _ hE hP hD hS hce hcv hcl => ?_) (fun H locs hk0 _ _ _ => absurd hk0 hk)
  rcases rk_kW_r ee a b cn with h9 | h9 | h9
  · exact absurd h9 hk
  · have hE : E = "java/lang/IllegalArgumentException" := by rw [hE, h9]; rfl
    subst hE
    refine vx_catch (own := RZ) (name := "java/lang/IllegalArgumentException") (E := "java/lang/IllegalArgumentException") hown [] ⟨5, 12, 13, 19⟩ [⟨5, 12, 23, 26⟩] (by rw [hTab]; rfl) (fun z hz => nomatch hz) (by decide) (by decide) (hts (.classLink RZ 19 "java/lang/IllegalArgumentException") (by decide +kernel)) (va_Nw.use rfl (hX.2.1 _ (List.mem_of_getElem? (i := 0) rfl))) hce hcv hcl ?_
    refine lv_astore (lv' := [(4, .ref q9), (0, .ref h), (1, .int ee), (2, .int a), (3, .int b)]) hx hb dZ_weigh_13 hl (by decide) rfl (fun ls hl => ?_)
    refine lv_aload_n hx hb dZ_weigh_15 rfl (lv_at hl 1 rfl) ?_
    refine lv_iconst (v := 1) hx hb dZ_weigh_16 (by decide) ?_
    refine va_put (D := D) (ci := 1) (v := .int 1) (ty := .int) (C := RZ) (T := TZ) (N := 5) hx hb hts hu tyZ tyZ_ok nmZ hown hK hP hD hS 5 rfl rfl 4 (by decide) hF52 (fun _ h9 => h9) rfl (by decide +kernel) rfl rfl (Nat.le_of_ble_eq_true rfl) dZ_weigh_17 (fun H locs hP hD hS => ?_)
    have hP : va_P D vwD (wM p0 p1 p2 p3 p4 h r1 f1 s1 cI R F S cn 1) H := hP
    have hD : va_D A (wM p0 p1 p2 p3 p4 h r1 f1 s1 cI R F S cn 1) := hD
    refine lv_goto (tgt := 30) hx hb dZ_weigh_20 (by decide) ?_
    refine lv_iconst (v := 0) hx hb dZ_weigh_30 (by decide) ?_
    have hP : va_P D vwD (wM p0 p1 p2 p3 p4 h r1 f1 s1 cI R F S cn (nI (rk_kW ee a b cn))) H := by rw [h9]; exact hP
    have hD : va_D A (wM p0 p1 p2 p3 p4 h r1 f1 s1 cI R F S cn (nI (rk_kW ee a b cn))) := by rw [h9]; exact hD
    exact e_i hx hb hr hlocks hP hK hD hS dZ_weigh_31 (Nat.le_of_ble_eq_true rfl) (Nat.le_of_ble_eq_true rfl)
  · have hE : E = "java/util/NoSuchElementException" := by rw [hE, h9]; rfl
    subst hE
    refine vx_catch (own := RZ) (name := "java/util/NoSuchElementException") (E := "java/util/NoSuchElementException") hown [⟨5, 12, 13, 19⟩] ⟨5, 12, 23, 26⟩ [] (by rw [hTab]; rfl) (by
        intro z hz
        rcases List.mem_cons.mp hz with rfl | hz
        · exact Or.inr ⟨by decide, "java/lang/IllegalArgumentException", hts (.classLink RZ 19 "java/lang/IllegalArgumentException") (by decide +kernel), hX.2.2.2.1.1⟩
        cases hz) (by decide) (by decide) (hts (.classLink RZ 26 "java/util/NoSuchElementException") (by decide +kernel)) (va_Nw.use rfl (hX.2.1 _ (List.mem_of_getElem? (i := 1) rfl))) hce hcv hcl ?_
    refine lv_astore (lv' := [(4, .ref q9), (0, .ref h), (1, .int ee), (2, .int a), (3, .int b)]) hx hb dZ_weigh_23 hl (by decide) rfl (fun ls hl => ?_)
    refine lv_aload_n hx hb dZ_weigh_25 rfl (lv_at hl 1 rfl) ?_
    refine lv_iconst (v := 2) hx hb dZ_weigh_26 (by decide) ?_
    refine va_put (D := D) (ci := 1) (v := .int 2) (ty := .int) (C := RZ) (T := TZ) (N := 5) hx hb hts hu tyZ tyZ_ok nmZ hown hK hP hD hS 5 rfl rfl 4 (by decide) hF52 (fun _ h9 => h9) rfl (by decide +kernel) rfl rfl (Nat.le_of_ble_eq_true rfl) dZ_weigh_27 (fun H locs hP hD hS => ?_)
    have hP : va_P D vwD (wM p0 p1 p2 p3 p4 h r1 f1 s1 cI R F S cn 2) H := hP
    have hD : va_D A (wM p0 p1 p2 p3 p4 h r1 f1 s1 cI R F S cn 2) := hD
    refine lv_iconst (v := 0) hx hb dZ_weigh_30 (by decide) ?_
    have hP : va_P D vwD (wM p0 p1 p2 p3 p4 h r1 f1 s1 cI R F S cn (nI (rk_kW ee a b cn))) H := by rw [h9]; exact hP
    have hD : va_D A (wM p0 p1 p2 p3 p4 h r1 f1 s1 cI R F S cn (nI (rk_kW ee a b cn))) := by rw [h9]; exact hD
    exact e_i hx hb hr hlocks hP hK hD hS dZ_weigh_31 (Nat.le_of_ble_eq_true rfl) (Nat.le_of_ble_eq_true rfl)
set_option maxHeartbeats 4000000 in
set_option maxRecDepth 100000 in
theorem p_find_ok (l : Launch) (D : va_G) (ad : Nat → Nat) (cI cJ : ClassId) (p0 p1 p2 p3 p4 : Nat × va_E) (h r1 f1 s1 : Nat) (R F S : Nat → Int32) (cn : Nat) (th : Int32) (q : Int32) (hl9 : l.stackTraces = false) (hR : rk_ok R cn) (hk : rk_kD R F q cn = 0) : uI l yZ_find wsZ_find ({ frames := 8, cells := 1, slots := 6, locals := 180 } : Room) D ad [(cI, .int), (cJ, .long)] [.ref h, .int q] (wM p0 p1 p2 p3 p4 h r1 f1 s1 cI R F S cn th) (wM p0 p1 p2 p3 p4 h r1 f1 s1 cI R F S cn 0) (R (rk_fd R F q cn)) 1 6 := by
  unfold uI
  refine st_W (Qc := qI D [(cI, .int), (cJ, .long)] (wM p0 p1 p2 p3 p4 h r1 f1 s1 cI R F S cn 0) (R (rk_fd R F q cn))) (hh := [(5, 10, 11, 26)]) (mc := 1) (ms := 6) (cc := cZ_find) (maxL := 3) (ret := (some .int)) [.ref h, .int q] (by decide) rfl (Nat.le_of_ble_eq_true rfl) (fun p en s m below meth c A ls hTab hx hb hr hlocks hml hts hown hA hS hP hK hD hX hl => ?_)
  have hown : s.vm.findClass RZ = some m.cls := hown
  have hl : lv_has ls 3 [(0, .ref h), (1, .int q)] := hl
  have hu : ∀ w ∈ u_ws RZ TZ 5, w ∈ wsZ_find := fun w h => List.mem_cons_of_mem _ (wsZ0_in w h)
  have hF52 := hts (.fieldLink RZ 52 "RankRowsModel" "thrown" "I") (by decide +kernel)
  have SC : CallFix p m c cZ_find 3 s ([.ref h, .int q] : List Value).toArray wsZ_find RZ := ⟨hx, hb, hml, hown, hts⟩
  refine lv_aload_n hx hb dZ_find_0 rfl (lv_at hl 0 rfl) ?_
  refine lv_iconst (v := 0) hx hb dZ_find_1 (by decide) ?_
  refine va_put (D := D) (ci := 1) (v := .int 0) (ty := .int) (C := RZ) (T := TZ) (N := 5) hx hb hts hu tyZ tyZ_ok nmZ hown hK hP hD hS 5 rfl rfl 4 (by decide) hF52 (fun _ h9 => h9) rfl (by decide +kernel) rfl rfl (Nat.le_of_ble_eq_true rfl) dZ_find_2 (fun H locs hP hD hS => ?_)
  have hP : va_P D vwD (wM p0 p1 p2 p3 p4 h r1 f1 s1 cI R F S cn 0) H := hP
  have hD : va_D A (wM p0 p1 p2 p3 p4 h r1 f1 s1 cI R F S cn 0) := hD
  refine lv_aload_n hx hb dZ_find_5 rfl (lv_at hl 0 rfl) ?_
  refine lv_iload_n hx hb dZ_find_6 rfl (lv_at hl 1 rfl) ?_
  refine r_c (rm := ({ frames := 7, cells := 1, slots := 6, locals := 140 } : Room)) (As := [.int q]) (rest := []) (j_find l D ad cI cJ p0 p1 p2 p3 p4 h r1 f1 s1 R F S cn 0 q hl9 hR) SC (cwV 1 hts gZ_find_Z_find0 rfl rfl rfl (by decide +kernel) ⟨Nat.le_of_ble_eq_true rfl, Nat.le_of_ble_eq_true rfl⟩) hP hK hD hS hA hX 5 rfl rfl rfl hl.1 rfl (Nat.le_of_ble_eq_true rfl) dZ_find_7 ⟨Nat.le_of_ble_eq_true rfl, Nat.le_of_ble_eq_true rfl⟩ (fun E ce q9 H locs hk0 _ _ _ _ _ _ _ => absurd hk hk0) (fun H locs _ hP hD hS => ?_)
  exact e_i hx hb hr hlocks hP hK hD hS dZ_find_10 (Nat.le_of_ble_eq_true rfl) (Nat.le_of_ble_eq_true rfl)
set_option maxHeartbeats 4000000 in
set_option maxRecDepth 100000 in
theorem p_find_bad (l : Launch) (D : va_G) (ad : Nat → Nat) (cI cJ : ClassId) (p0 p1 p2 p3 p4 : Nat × va_E) (h r1 f1 s1 : Nat) (R F S : Nat → Int32) (cn : Nat) (th : Int32) (q : Int32) (hl9 : l.stackTraces = false) (hR : rk_ok R cn) (hk : rk_kD R F q cn ≠ 0) : uI l yZ_find wsZ_find ({ frames := 8, cells := 1, slots := 6, locals := 180 } : Room) D ad [(cI, .int), (cJ, .long)] [.ref h, .int q] (wM p0 p1 p2 p3 p4 h r1 f1 s1 cI R F S cn th) (wM p0 p1 p2 p3 p4 h r1 f1 s1 cI R F S cn (1)) (0) 1 6 := by
  unfold uI
  refine st_W (Qc := qI D [(cI, .int), (cJ, .long)] (wM p0 p1 p2 p3 p4 h r1 f1 s1 cI R F S cn (1)) 0) (hh := [(5, 10, 11, 26)]) (mc := 1) (ms := 6) (cc := cZ_find) (maxL := 3) (ret := (some .int)) [.ref h, .int q] (by decide) rfl (Nat.le_of_ble_eq_true rfl) (fun p en s m below meth c A ls hTab hx hb hr hlocks hml hts hown hA hS hP hK hD hX hl => ?_)
  have hown : s.vm.findClass RZ = some m.cls := hown
  have hl : lv_has ls 3 [(0, .ref h), (1, .int q)] := hl
  have hu : ∀ w ∈ u_ws RZ TZ 5, w ∈ wsZ_find := fun w h => List.mem_cons_of_mem _ (wsZ0_in w h)
  have hF52 := hts (.fieldLink RZ 52 "RankRowsModel" "thrown" "I") (by decide +kernel)
  have SC : CallFix p m c cZ_find 3 s ([.ref h, .int q] : List Value).toArray wsZ_find RZ := ⟨hx, hb, hml, hown, hts⟩
  refine lv_aload_n hx hb dZ_find_0 rfl (lv_at hl 0 rfl) ?_
  refine lv_iconst (v := 0) hx hb dZ_find_1 (by decide) ?_
  refine va_put (D := D) (ci := 1) (v := .int 0) (ty := .int) (C := RZ) (T := TZ) (N := 5) hx hb hts hu tyZ tyZ_ok nmZ hown hK hP hD hS 5 rfl rfl 4 (by decide) hF52 (fun _ h9 => h9) rfl (by decide +kernel) rfl rfl (Nat.le_of_ble_eq_true rfl) dZ_find_2 (fun H locs hP hD hS => ?_)
  have hP : va_P D vwD (wM p0 p1 p2 p3 p4 h r1 f1 s1 cI R F S cn 0) H := hP
  have hD : va_D A (wM p0 p1 p2 p3 p4 h r1 f1 s1 cI R F S cn 0) := hD
  refine lv_aload_n hx hb dZ_find_5 rfl (lv_at hl 0 rfl) ?_
  refine lv_iload_n hx hb dZ_find_6 rfl (lv_at hl 1 rfl) ?_
  refine r_c (rm := ({ frames := 7, cells := 1, slots := 6, locals := 140 } : Room)) (As := [.int q]) (rest := []) (j_find l D ad cI cJ p0 p1 p2 p3 p4 h r1 f1 s1 R F S cn 0 q hl9 hR) SC (cwV 1 hts gZ_find_Z_find0 rfl rfl rfl (by decide +kernel) ⟨Nat.le_of_ble_eq_true rfl, Nat.le_of_ble_eq_true rfl⟩) hP hK hD hS hA hX 5 rfl rfl rfl hl.1 rfl (Nat.le_of_ble_eq_true rfl) dZ_find_7 ⟨Nat.le_of_ble_eq_true rfl, Nat.le_of_ble_eq_true rfl⟩ (fun E ce q9 H locs _ hE hP hD hS hce hcv hcl => ?_) (fun H locs hk0 _ _ _ => absurd hk0 hk)
  rcases rk_kD_r R F q cn with h9 | h9
  · exact absurd h9 hk
  · have hE : E = "java/util/NoSuchElementException" := by rw [hE, h9]; rfl
    subst hE
    refine vx_catch (own := RZ) (name := "java/util/NoSuchElementException") (E := "java/util/NoSuchElementException") hown [] ⟨5, 10, 11, 26⟩ [] (by rw [hTab]; rfl) (fun z hz => nomatch hz) (by decide) (by decide) (hts (.classLink RZ 26 "java/util/NoSuchElementException") (by decide +kernel)) (va_Nw.use rfl (hX.2.1 _ (List.mem_of_getElem? (i := 1) rfl))) hce hcv hcl ?_
    refine lv_astore_n (lv' := [(2, .ref q9), (0, .ref h), (1, .int q)]) hx hb dZ_find_11 rfl hl (by decide) rfl (fun ls hl => ?_)
    refine lv_aload_n hx hb dZ_find_12 rfl (lv_at hl 1 rfl) ?_
    refine lv_iconst (v := 1) hx hb dZ_find_13 (by decide) ?_
    refine va_put (D := D) (ci := 1) (v := .int 1) (ty := .int) (C := RZ) (T := TZ) (N := 5) hx hb hts hu tyZ tyZ_ok nmZ hown hK hP hD hS 5 rfl rfl 4 (by decide) hF52 (fun _ h9 => h9) rfl (by decide +kernel) rfl rfl (Nat.le_of_ble_eq_true rfl) dZ_find_14 (fun H locs hP hD hS => ?_)
    have hP : va_P D vwD (wM p0 p1 p2 p3 p4 h r1 f1 s1 cI R F S cn 1) H := hP
    have hD : va_D A (wM p0 p1 p2 p3 p4 h r1 f1 s1 cI R F S cn 1) := hD
    refine lv_iconst (v := 0) hx hb dZ_find_17 (by decide) ?_
    exact e_i hx hb hr hlocks hP hK hD hS dZ_find_18 (Nat.le_of_ble_eq_true rfl) (Nat.le_of_ble_eq_true rfl)
set_option maxHeartbeats 4000000 in
set_option maxRecDepth 100000 in
theorem p_sum_ok (l : Launch) (D : va_G) (ad : Nat → Nat) (cI cJ : ClassId) (p0 p1 p2 p3 p4 : Nat × va_E) (h r1 f1 s1 : Nat) (R F S : Nat → Int32) (cn : Nat) (th : Int32) (ee z : Int32) (hl9 : l.stackTraces = false) (hR : rk_ok R cn) (hk : rk_kS ee z cn = 0) : uI l yZ_sum wsZ_sum ({ frames := 8, cells := 1, slots := 6, locals := 180 } : Room) D ad [(cI, .int), (cJ, .long)] [.ref h, .int ee, .int z] (wM p0 p1 p2 p3 p4 h r1 f1 s1 cI R F S cn th) (wM p0 p1 p2 p3 p4 h r1 f1 s1 cI R F S cn 0) (rk_sm R (if z = 0 then F else S) (if ee = -1 then cn else rk_pl R ee cn)) 1 6 := by
  unfold uI
  refine st_W (Qc := qI D [(cI, .int), (cJ, .long)] (wM p0 p1 p2 p3 p4 h r1 f1 s1 cI R F S cn 0) (rk_sm R (if z = 0 then F else S) (if ee = -1 then cn else rk_pl R ee cn))) (hh := [(5, 11, 12, 19), (5, 11, 21, 26)]) (mc := 1) (ms := 6) (cc := cZ_sum) (maxL := 4) (ret := (some .int)) [.ref h, .int ee, .int z] (by decide) rfl (Nat.le_of_ble_eq_true rfl) (fun p en s m below meth c A ls hTab hx hb hr hlocks hml hts hown hA hS hP hK hD hX hl => ?_)
  have hown : s.vm.findClass RZ = some m.cls := hown
  have hl : lv_has ls 4 [(0, .ref h), (1, .int ee), (2, .int z)] := hl
  have hu : ∀ w ∈ u_ws RZ TZ 5, w ∈ wsZ_sum := fun w h => List.mem_cons_of_mem _ (wsZ0_in w h)
  have hF52 := hts (.fieldLink RZ 52 "RankRowsModel" "thrown" "I") (by decide +kernel)
  have SC : CallFix p m c cZ_sum 4 s ([.ref h, .int ee, .int z] : List Value).toArray wsZ_sum RZ := ⟨hx, hb, hml, hown, hts⟩
  refine lv_aload_n hx hb dZ_sum_0 rfl (lv_at hl 0 rfl) ?_
  refine lv_iconst (v := 0) hx hb dZ_sum_1 (by decide) ?_
  refine va_put (D := D) (ci := 1) (v := .int 0) (ty := .int) (C := RZ) (T := TZ) (N := 5) hx hb hts hu tyZ tyZ_ok nmZ hown hK hP hD hS 5 rfl rfl 4 (by decide) hF52 (fun _ h9 => h9) rfl (by decide +kernel) rfl rfl (Nat.le_of_ble_eq_true rfl) dZ_sum_2 (fun H locs hP hD hS => ?_)
  have hP : va_P D vwD (wM p0 p1 p2 p3 p4 h r1 f1 s1 cI R F S cn 0) H := hP
  have hD : va_D A (wM p0 p1 p2 p3 p4 h r1 f1 s1 cI R F S cn 0) := hD
  refine lv_aload_n hx hb dZ_sum_5 rfl (lv_at hl 0 rfl) ?_
  refine lv_iload_n hx hb dZ_sum_6 rfl (lv_at hl 1 rfl) ?_
  refine lv_iload_n hx hb dZ_sum_7 rfl (lv_at hl 2 rfl) ?_
  refine r_c (rm := ({ frames := 7, cells := 1, slots := 6, locals := 140 } : Room)) (As := [.int ee, .int z]) (rest := []) (j_sum l D ad cI cJ p0 p1 p2 p3 p4 h r1 f1 s1 R F S cn 0 ee z hl9 hR) SC (cwV 2 hts gZ_sum_Z_sum0 rfl rfl rfl (by decide +kernel) ⟨Nat.le_of_ble_eq_true rfl, Nat.le_of_ble_eq_true rfl⟩) hP hK hD hS hA hX 5 rfl rfl rfl hl.1 rfl (Nat.le_of_ble_eq_true rfl) dZ_sum_8 ⟨Nat.le_of_ble_eq_true rfl, Nat.le_of_ble_eq_true rfl⟩ (fun E ce q9 H locs hk0 _ _ _ _ _ _ _ => absurd hk hk0) (fun H locs _ hP hD hS => ?_)
  exact e_i hx hb hr hlocks hP hK hD hS dZ_sum_11 (Nat.le_of_ble_eq_true rfl) (Nat.le_of_ble_eq_true rfl)
set_option maxHeartbeats 4000000 in
set_option maxRecDepth 100000 in
theorem p_sum_bad (l : Launch) (D : va_G) (ad : Nat → Nat) (cI cJ : ClassId) (p0 p1 p2 p3 p4 : Nat × va_E) (h r1 f1 s1 : Nat) (R F S : Nat → Int32) (cn : Nat) (th : Int32) (ee z : Int32) (hl9 : l.stackTraces = false) (hR : rk_ok R cn) (hk : rk_kS ee z cn ≠ 0) : uI l yZ_sum wsZ_sum ({ frames := 8, cells := 1, slots := 6, locals := 180 } : Room) D ad [(cI, .int), (cJ, .long)] [.ref h, .int ee, .int z] (wM p0 p1 p2 p3 p4 h r1 f1 s1 cI R F S cn th) (wM p0 p1 p2 p3 p4 h r1 f1 s1 cI R F S cn (nI (rk_kS ee z cn))) (0) 1 6 := by
  unfold uI
  refine st_W (Qc := qI D [(cI, .int), (cJ, .long)] (wM p0 p1 p2 p3 p4 h r1 f1 s1 cI R F S cn (nI (rk_kS ee z cn))) 0) (hh := [(5, 11, 12, 19), (5, 11, 21, 26)]) (mc := 1) (ms := 6) (cc := cZ_sum) (maxL := 4) (ret := (some .int)) [.ref h, .int ee, .int z] (by decide) rfl (Nat.le_of_ble_eq_true rfl) (fun p en s m below meth c A ls hTab hx hb hr hlocks hml hts hown hA hS hP hK hD hX hl => ?_)
  have hown : s.vm.findClass RZ = some m.cls := hown
  have hl : lv_has ls 4 [(0, .ref h), (1, .int ee), (2, .int z)] := hl
  have hu : ∀ w ∈ u_ws RZ TZ 5, w ∈ wsZ_sum := fun w h => List.mem_cons_of_mem _ (wsZ0_in w h)
  have hF52 := hts (.fieldLink RZ 52 "RankRowsModel" "thrown" "I") (by decide +kernel)
  have SC : CallFix p m c cZ_sum 4 s ([.ref h, .int ee, .int z] : List Value).toArray wsZ_sum RZ := ⟨hx, hb, hml, hown, hts⟩
  refine lv_aload_n hx hb dZ_sum_0 rfl (lv_at hl 0 rfl) ?_
  refine lv_iconst (v := 0) hx hb dZ_sum_1 (by decide) ?_
  refine va_put (D := D) (ci := 1) (v := .int 0) (ty := .int) (C := RZ) (T := TZ) (N := 5) hx hb hts hu tyZ tyZ_ok nmZ hown hK hP hD hS 5 rfl rfl 4 (by decide) hF52 (fun _ h9 => h9) rfl (by decide +kernel) rfl rfl (Nat.le_of_ble_eq_true rfl) dZ_sum_2 (fun H locs hP hD hS => ?_)
  have hP : va_P D vwD (wM p0 p1 p2 p3 p4 h r1 f1 s1 cI R F S cn 0) H := hP
  have hD : va_D A (wM p0 p1 p2 p3 p4 h r1 f1 s1 cI R F S cn 0) := hD
  refine lv_aload_n hx hb dZ_sum_5 rfl (lv_at hl 0 rfl) ?_
  refine lv_iload_n hx hb dZ_sum_6 rfl (lv_at hl 1 rfl) ?_
  refine lv_iload_n hx hb dZ_sum_7 rfl (lv_at hl 2 rfl) ?_
  refine r_c (rm := ({ frames := 7, cells := 1, slots := 6, locals := 140 } : Room)) (As := [.int ee, .int z]) (rest := []) (j_sum l D ad cI cJ p0 p1 p2 p3 p4 h r1 f1 s1 R F S cn 0 ee z hl9 hR) SC (cwV 2 hts gZ_sum_Z_sum0 rfl rfl rfl (by decide +kernel) ⟨Nat.le_of_ble_eq_true rfl, Nat.le_of_ble_eq_true rfl⟩) hP hK hD hS hA hX 5 rfl rfl rfl hl.1 rfl (Nat.le_of_ble_eq_true rfl) dZ_sum_8 ⟨Nat.le_of_ble_eq_true rfl, Nat.le_of_ble_eq_true rfl⟩ (fun E ce q9 H locs _ hE hP hD hS hce hcv hcl => ?_) (fun H locs hk0 _ _ _ => absurd hk0 hk)
  rcases rk_kS_r ee z cn with h9 | h9 | h9
  · exact absurd h9 hk
  · have hE : E = "java/lang/IllegalArgumentException" := by rw [hE, h9]; rfl
    subst hE
    refine vx_catch (own := RZ) (name := "java/lang/IllegalArgumentException") (E := "java/lang/IllegalArgumentException") hown [] ⟨5, 11, 12, 19⟩ [⟨5, 11, 21, 26⟩] (by rw [hTab]; rfl) (fun z hz => nomatch hz) (by decide) (by decide) (hts (.classLink RZ 19 "java/lang/IllegalArgumentException") (by decide +kernel)) (va_Nw.use rfl (hX.2.1 _ (List.mem_of_getElem? (i := 0) rfl))) hce hcv hcl ?_
    refine lv_astore_n (lv' := [(3, .ref q9), (0, .ref h), (1, .int ee), (2, .int z)]) hx hb dZ_sum_12 rfl hl (by decide) rfl (fun ls hl => ?_)
    refine lv_aload_n hx hb dZ_sum_13 rfl (lv_at hl 1 rfl) ?_
    refine lv_iconst (v := 1) hx hb dZ_sum_14 (by decide) ?_
    refine va_put (D := D) (ci := 1) (v := .int 1) (ty := .int) (C := RZ) (T := TZ) (N := 5) hx hb hts hu tyZ tyZ_ok nmZ hown hK hP hD hS 5 rfl rfl 4 (by decide) hF52 (fun _ h9 => h9) rfl (by decide +kernel) rfl rfl (Nat.le_of_ble_eq_true rfl) dZ_sum_15 (fun H locs hP hD hS => ?_)
    have hP : va_P D vwD (wM p0 p1 p2 p3 p4 h r1 f1 s1 cI R F S cn 1) H := hP
    have hD : va_D A (wM p0 p1 p2 p3 p4 h r1 f1 s1 cI R F S cn 1) := hD
    refine lv_goto (tgt := 27) hx hb dZ_sum_18 (by decide) ?_
    refine lv_iconst (v := 0) hx hb dZ_sum_27 (by decide) ?_
    have hP : va_P D vwD (wM p0 p1 p2 p3 p4 h r1 f1 s1 cI R F S cn (nI (rk_kS ee z cn))) H := by rw [h9]; exact hP
    have hD : va_D A (wM p0 p1 p2 p3 p4 h r1 f1 s1 cI R F S cn (nI (rk_kS ee z cn))) := by rw [h9]; exact hD
    exact e_i hx hb hr hlocks hP hK hD hS dZ_sum_28 (Nat.le_of_ble_eq_true rfl) (Nat.le_of_ble_eq_true rfl)
  · have hE : E = "java/util/NoSuchElementException" := by rw [hE, h9]; rfl
    subst hE
    refine vx_catch (own := RZ) (name := "java/util/NoSuchElementException") (E := "java/util/NoSuchElementException") hown [⟨5, 11, 12, 19⟩] ⟨5, 11, 21, 26⟩ [] (by rw [hTab]; rfl) (by
        intro z hz
        rcases List.mem_cons.mp hz with rfl | hz
        · exact Or.inr ⟨by decide, "java/lang/IllegalArgumentException", hts (.classLink RZ 19 "java/lang/IllegalArgumentException") (by decide +kernel), hX.2.2.2.1.1⟩
        cases hz) (by decide) (by decide) (hts (.classLink RZ 26 "java/util/NoSuchElementException") (by decide +kernel)) (va_Nw.use rfl (hX.2.1 _ (List.mem_of_getElem? (i := 1) rfl))) hce hcv hcl ?_
    refine lv_astore_n (lv' := [(3, .ref q9), (0, .ref h), (1, .int ee), (2, .int z)]) hx hb dZ_sum_21 rfl hl (by decide) rfl (fun ls hl => ?_)
    refine lv_aload_n hx hb dZ_sum_22 rfl (lv_at hl 1 rfl) ?_
    refine lv_iconst (v := 2) hx hb dZ_sum_23 (by decide) ?_
    refine va_put (D := D) (ci := 1) (v := .int 2) (ty := .int) (C := RZ) (T := TZ) (N := 5) hx hb hts hu tyZ tyZ_ok nmZ hown hK hP hD hS 5 rfl rfl 4 (by decide) hF52 (fun _ h9 => h9) rfl (by decide +kernel) rfl rfl (Nat.le_of_ble_eq_true rfl) dZ_sum_24 (fun H locs hP hD hS => ?_)
    have hP : va_P D vwD (wM p0 p1 p2 p3 p4 h r1 f1 s1 cI R F S cn 2) H := hP
    have hD : va_D A (wM p0 p1 p2 p3 p4 h r1 f1 s1 cI R F S cn 2) := hD
    refine lv_iconst (v := 0) hx hb dZ_sum_27 (by decide) ?_
    have hP : va_P D vwD (wM p0 p1 p2 p3 p4 h r1 f1 s1 cI R F S cn (nI (rk_kS ee z cn))) H := by rw [h9]; exact hP
    have hD : va_D A (wM p0 p1 p2 p3 p4 h r1 f1 s1 cI R F S cn (nI (rk_kS ee z cn))) := by rw [h9]; exact hD
    exact e_i hx hb hr hlocks hP hK hD hS dZ_sum_28 (Nat.le_of_ble_eq_true rfl) (Nat.le_of_ble_eq_true rfl)
set_option maxHeartbeats 4000000 in
set_option maxRecDepth 100000 in
theorem p_next_ok (l : Launch) (D : va_G) (ad : Nat → Nat) (cI cJ : ClassId) (p0 p1 p2 p3 p4 : Nat × va_E) (h r1 f1 s1 : Nat) (R F S : Nat → Int32) (cn : Nat) (th : Int32) (ee : Int32) (hl9 : l.stackTraces = false) (hR : rk_ok R cn) (hk : rk_kN R ee cn = 0) : uI l yZ_next wsZ_next ({ frames := 8, cells := 1, slots := 6, locals := 180 } : Room) D ad [(cI, .int), (cJ, .long)] [.ref h, .int ee] (wM p0 p1 p2 p3 p4 h r1 f1 s1 cI R F S cn th) (wM p0 p1 p2 p3 p4 h r1 f1 s1 cI R F S cn 0) (R (rk_pb R ee cn)) 1 6 := by
  unfold uI
  refine st_W (Qc := qI D [(cI, .int), (cJ, .long)] (wM p0 p1 p2 p3 p4 h r1 f1 s1 cI R F S cn 0) (R (rk_pb R ee cn))) (hh := [(5, 10, 11, 26)]) (mc := 1) (ms := 6) (cc := cZ_next) (maxL := 3) (ret := (some .int)) [.ref h, .int ee] (by decide) rfl (Nat.le_of_ble_eq_true rfl) (fun p en s m below meth c A ls hTab hx hb hr hlocks hml hts hown hA hS hP hK hD hX hl => ?_)
  have hown : s.vm.findClass RZ = some m.cls := hown
  have hl : lv_has ls 3 [(0, .ref h), (1, .int ee)] := hl
  have hu : ∀ w ∈ u_ws RZ TZ 5, w ∈ wsZ_next := fun w h => List.mem_cons_of_mem _ (wsZ0_in w h)
  have hF52 := hts (.fieldLink RZ 52 "RankRowsModel" "thrown" "I") (by decide +kernel)
  have SC : CallFix p m c cZ_next 3 s ([.ref h, .int ee] : List Value).toArray wsZ_next RZ := ⟨hx, hb, hml, hown, hts⟩
  refine lv_aload_n hx hb dZ_next_0 rfl (lv_at hl 0 rfl) ?_
  refine lv_iconst (v := 0) hx hb dZ_next_1 (by decide) ?_
  refine va_put (D := D) (ci := 1) (v := .int 0) (ty := .int) (C := RZ) (T := TZ) (N := 5) hx hb hts hu tyZ tyZ_ok nmZ hown hK hP hD hS 5 rfl rfl 4 (by decide) hF52 (fun _ h9 => h9) rfl (by decide +kernel) rfl rfl (Nat.le_of_ble_eq_true rfl) dZ_next_2 (fun H locs hP hD hS => ?_)
  have hP : va_P D vwD (wM p0 p1 p2 p3 p4 h r1 f1 s1 cI R F S cn 0) H := hP
  have hD : va_D A (wM p0 p1 p2 p3 p4 h r1 f1 s1 cI R F S cn 0) := hD
  refine lv_aload_n hx hb dZ_next_5 rfl (lv_at hl 0 rfl) ?_
  refine lv_iload_n hx hb dZ_next_6 rfl (lv_at hl 1 rfl) ?_
  refine r_c (rm := ({ frames := 7, cells := 1, slots := 6, locals := 140 } : Room)) (As := [.int ee]) (rest := []) (j_next l D ad cI cJ p0 p1 p2 p3 p4 h r1 f1 s1 R F S cn 0 ee hl9 hR) SC (cwV 1 hts gZ_next_Z_next0 rfl rfl rfl (by decide +kernel) ⟨Nat.le_of_ble_eq_true rfl, Nat.le_of_ble_eq_true rfl⟩) hP hK hD hS hA hX 5 rfl rfl rfl hl.1 rfl (Nat.le_of_ble_eq_true rfl) dZ_next_7 ⟨Nat.le_of_ble_eq_true rfl, Nat.le_of_ble_eq_true rfl⟩ (fun E ce q9 H locs hk0 _ _ _ _ _ _ _ => absurd hk hk0) (fun H locs _ hP hD hS => ?_)
  exact e_i hx hb hr hlocks hP hK hD hS dZ_next_10 (Nat.le_of_ble_eq_true rfl) (Nat.le_of_ble_eq_true rfl)
set_option maxHeartbeats 4000000 in
set_option maxRecDepth 100000 in
theorem p_next_bad (l : Launch) (D : va_G) (ad : Nat → Nat) (cI cJ : ClassId) (p0 p1 p2 p3 p4 : Nat × va_E) (h r1 f1 s1 : Nat) (R F S : Nat → Int32) (cn : Nat) (th : Int32) (ee : Int32) (hl9 : l.stackTraces = false) (hR : rk_ok R cn) (hk : rk_kN R ee cn ≠ 0) : uI l yZ_next wsZ_next ({ frames := 8, cells := 1, slots := 6, locals := 180 } : Room) D ad [(cI, .int), (cJ, .long)] [.ref h, .int ee] (wM p0 p1 p2 p3 p4 h r1 f1 s1 cI R F S cn th) (wM p0 p1 p2 p3 p4 h r1 f1 s1 cI R F S cn (1)) (0) 1 6 := by
  unfold uI
  refine st_W (Qc := qI D [(cI, .int), (cJ, .long)] (wM p0 p1 p2 p3 p4 h r1 f1 s1 cI R F S cn (1)) 0) (hh := [(5, 10, 11, 26)]) (mc := 1) (ms := 6) (cc := cZ_next) (maxL := 3) (ret := (some .int)) [.ref h, .int ee] (by decide) rfl (Nat.le_of_ble_eq_true rfl) (fun p en s m below meth c A ls hTab hx hb hr hlocks hml hts hown hA hS hP hK hD hX hl => ?_)
  have hown : s.vm.findClass RZ = some m.cls := hown
  have hl : lv_has ls 3 [(0, .ref h), (1, .int ee)] := hl
  have hu : ∀ w ∈ u_ws RZ TZ 5, w ∈ wsZ_next := fun w h => List.mem_cons_of_mem _ (wsZ0_in w h)
  have hF52 := hts (.fieldLink RZ 52 "RankRowsModel" "thrown" "I") (by decide +kernel)
  have SC : CallFix p m c cZ_next 3 s ([.ref h, .int ee] : List Value).toArray wsZ_next RZ := ⟨hx, hb, hml, hown, hts⟩
  refine lv_aload_n hx hb dZ_next_0 rfl (lv_at hl 0 rfl) ?_
  refine lv_iconst (v := 0) hx hb dZ_next_1 (by decide) ?_
  refine va_put (D := D) (ci := 1) (v := .int 0) (ty := .int) (C := RZ) (T := TZ) (N := 5) hx hb hts hu tyZ tyZ_ok nmZ hown hK hP hD hS 5 rfl rfl 4 (by decide) hF52 (fun _ h9 => h9) rfl (by decide +kernel) rfl rfl (Nat.le_of_ble_eq_true rfl) dZ_next_2 (fun H locs hP hD hS => ?_)
  have hP : va_P D vwD (wM p0 p1 p2 p3 p4 h r1 f1 s1 cI R F S cn 0) H := hP
  have hD : va_D A (wM p0 p1 p2 p3 p4 h r1 f1 s1 cI R F S cn 0) := hD
  refine lv_aload_n hx hb dZ_next_5 rfl (lv_at hl 0 rfl) ?_
  refine lv_iload_n hx hb dZ_next_6 rfl (lv_at hl 1 rfl) ?_
  refine r_c (rm := ({ frames := 7, cells := 1, slots := 6, locals := 140 } : Room)) (As := [.int ee]) (rest := []) (j_next l D ad cI cJ p0 p1 p2 p3 p4 h r1 f1 s1 R F S cn 0 ee hl9 hR) SC (cwV 1 hts gZ_next_Z_next0 rfl rfl rfl (by decide +kernel) ⟨Nat.le_of_ble_eq_true rfl, Nat.le_of_ble_eq_true rfl⟩) hP hK hD hS hA hX 5 rfl rfl rfl hl.1 rfl (Nat.le_of_ble_eq_true rfl) dZ_next_7 ⟨Nat.le_of_ble_eq_true rfl, Nat.le_of_ble_eq_true rfl⟩ (fun E ce q9 H locs _ hE hP hD hS hce hcv hcl => ?_) (fun H locs hk0 _ _ _ => absurd hk0 hk)
  rcases rk_kN_r R ee cn with h9 | h9
  · exact absurd h9 hk
  · have hE : E = "java/util/NoSuchElementException" := by rw [hE, h9]; rfl
    subst hE
    refine vx_catch (own := RZ) (name := "java/util/NoSuchElementException") (E := "java/util/NoSuchElementException") hown [] ⟨5, 10, 11, 26⟩ [] (by rw [hTab]; rfl) (fun z hz => nomatch hz) (by decide) (by decide) (hts (.classLink RZ 26 "java/util/NoSuchElementException") (by decide +kernel)) (va_Nw.use rfl (hX.2.1 _ (List.mem_of_getElem? (i := 1) rfl))) hce hcv hcl ?_
    refine lv_astore_n (lv' := [(2, .ref q9), (0, .ref h), (1, .int ee)]) hx hb dZ_next_11 rfl hl (by decide) rfl (fun ls hl => ?_)
    refine lv_aload_n hx hb dZ_next_12 rfl (lv_at hl 1 rfl) ?_
    refine lv_iconst (v := 1) hx hb dZ_next_13 (by decide) ?_
    refine va_put (D := D) (ci := 1) (v := .int 1) (ty := .int) (C := RZ) (T := TZ) (N := 5) hx hb hts hu tyZ tyZ_ok nmZ hown hK hP hD hS 5 rfl rfl 4 (by decide) hF52 (fun _ h9 => h9) rfl (by decide +kernel) rfl rfl (Nat.le_of_ble_eq_true rfl) dZ_next_14 (fun H locs hP hD hS => ?_)
    have hP : va_P D vwD (wM p0 p1 p2 p3 p4 h r1 f1 s1 cI R F S cn 1) H := hP
    have hD : va_D A (wM p0 p1 p2 p3 p4 h r1 f1 s1 cI R F S cn 1) := hD
    refine lv_iconst (v := 0) hx hb dZ_next_17 (by decide) ?_
    exact e_i hx hb hr hlocks hP hK hD hS dZ_next_18 (Nat.le_of_ble_eq_true rfl) (Nat.le_of_ble_eq_true rfl)
set_option maxHeartbeats 4000000 in
set_option maxRecDepth 100000 in
theorem p_place_ok (l : Launch) (D : va_G) (ad : Nat → Nat) (cI cJ : ClassId) (p0 p1 p2 p3 p4 : Nat × va_E) (h r1 f1 s1 : Nat) (R F S : Nat → Int32) (cn : Nat) (th : Int32) (ee : Int32) (hl9 : l.stackTraces = false) (hR : rk_ok R cn) (hk : rk_kP ee cn = 0) : uI l yZ_place wsZ_place ({ frames := 8, cells := 1, slots := 6, locals := 180 } : Room) D ad [(cI, .int), (cJ, .long)] [.ref h, .int ee] (wM p0 p1 p2 p3 p4 h r1 f1 s1 cI R F S cn th) (wM p0 p1 p2 p3 p4 h r1 f1 s1 cI R F S cn 0) (nI (rk_pl R ee cn)) 1 6 := by
  unfold uI
  refine st_W (Qc := qI D [(cI, .int), (cJ, .long)] (wM p0 p1 p2 p3 p4 h r1 f1 s1 cI R F S cn 0) (nI (rk_pl R ee cn))) (hh := [(5, 10, 11, 26)]) (mc := 1) (ms := 6) (cc := cZ_place) (maxL := 3) (ret := (some .int)) [.ref h, .int ee] (by decide) rfl (Nat.le_of_ble_eq_true rfl) (fun p en s m below meth c A ls hTab hx hb hr hlocks hml hts hown hA hS hP hK hD hX hl => ?_)
  have hown : s.vm.findClass RZ = some m.cls := hown
  have hl : lv_has ls 3 [(0, .ref h), (1, .int ee)] := hl
  have hu : ∀ w ∈ u_ws RZ TZ 5, w ∈ wsZ_place := fun w h => List.mem_cons_of_mem _ (wsZ0_in w h)
  have hF52 := hts (.fieldLink RZ 52 "RankRowsModel" "thrown" "I") (by decide +kernel)
  have SC : CallFix p m c cZ_place 3 s ([.ref h, .int ee] : List Value).toArray wsZ_place RZ := ⟨hx, hb, hml, hown, hts⟩
  refine lv_aload_n hx hb dZ_place_0 rfl (lv_at hl 0 rfl) ?_
  refine lv_iconst (v := 0) hx hb dZ_place_1 (by decide) ?_
  refine va_put (D := D) (ci := 1) (v := .int 0) (ty := .int) (C := RZ) (T := TZ) (N := 5) hx hb hts hu tyZ tyZ_ok nmZ hown hK hP hD hS 5 rfl rfl 4 (by decide) hF52 (fun _ h9 => h9) rfl (by decide +kernel) rfl rfl (Nat.le_of_ble_eq_true rfl) dZ_place_2 (fun H locs hP hD hS => ?_)
  have hP : va_P D vwD (wM p0 p1 p2 p3 p4 h r1 f1 s1 cI R F S cn 0) H := hP
  have hD : va_D A (wM p0 p1 p2 p3 p4 h r1 f1 s1 cI R F S cn 0) := hD
  refine lv_aload_n hx hb dZ_place_5 rfl (lv_at hl 0 rfl) ?_
  refine lv_iload_n hx hb dZ_place_6 rfl (lv_at hl 1 rfl) ?_
  refine r_c (rm := ({ frames := 7, cells := 1, slots := 6, locals := 140 } : Room)) (As := [.int ee]) (rest := []) (j_place l D ad cI cJ p0 p1 p2 p3 p4 h r1 f1 s1 R F S cn 0 ee hl9 hR) SC (cwV 1 hts gZ_place_Z_place0 rfl rfl rfl (by decide +kernel) ⟨Nat.le_of_ble_eq_true rfl, Nat.le_of_ble_eq_true rfl⟩) hP hK hD hS hA hX 5 rfl rfl rfl hl.1 rfl (Nat.le_of_ble_eq_true rfl) dZ_place_7 ⟨Nat.le_of_ble_eq_true rfl, Nat.le_of_ble_eq_true rfl⟩ (fun E ce q9 H locs hk0 _ _ _ _ _ _ _ => absurd hk hk0) (fun H locs _ hP hD hS => ?_)
  exact e_i hx hb hr hlocks hP hK hD hS dZ_place_10 (Nat.le_of_ble_eq_true rfl) (Nat.le_of_ble_eq_true rfl)
set_option maxHeartbeats 4000000 in
set_option maxRecDepth 100000 in
theorem p_place_bad (l : Launch) (D : va_G) (ad : Nat → Nat) (cI cJ : ClassId) (p0 p1 p2 p3 p4 : Nat × va_E) (h r1 f1 s1 : Nat) (R F S : Nat → Int32) (cn : Nat) (th : Int32) (ee : Int32) (hl9 : l.stackTraces = false) (hR : rk_ok R cn) (hk : rk_kP ee cn ≠ 0) : uI l yZ_place wsZ_place ({ frames := 8, cells := 1, slots := 6, locals := 180 } : Room) D ad [(cI, .int), (cJ, .long)] [.ref h, .int ee] (wM p0 p1 p2 p3 p4 h r1 f1 s1 cI R F S cn th) (wM p0 p1 p2 p3 p4 h r1 f1 s1 cI R F S cn (1)) (0) 1 6 := by
  unfold uI
  refine st_W (Qc := qI D [(cI, .int), (cJ, .long)] (wM p0 p1 p2 p3 p4 h r1 f1 s1 cI R F S cn (1)) 0) (hh := [(5, 10, 11, 26)]) (mc := 1) (ms := 6) (cc := cZ_place) (maxL := 3) (ret := (some .int)) [.ref h, .int ee] (by decide) rfl (Nat.le_of_ble_eq_true rfl) (fun p en s m below meth c A ls hTab hx hb hr hlocks hml hts hown hA hS hP hK hD hX hl => ?_)
  have hown : s.vm.findClass RZ = some m.cls := hown
  have hl : lv_has ls 3 [(0, .ref h), (1, .int ee)] := hl
  have hu : ∀ w ∈ u_ws RZ TZ 5, w ∈ wsZ_place := fun w h => List.mem_cons_of_mem _ (wsZ0_in w h)
  have hF52 := hts (.fieldLink RZ 52 "RankRowsModel" "thrown" "I") (by decide +kernel)
  have SC : CallFix p m c cZ_place 3 s ([.ref h, .int ee] : List Value).toArray wsZ_place RZ := ⟨hx, hb, hml, hown, hts⟩
  refine lv_aload_n hx hb dZ_place_0 rfl (lv_at hl 0 rfl) ?_
  refine lv_iconst (v := 0) hx hb dZ_place_1 (by decide) ?_
  refine va_put (D := D) (ci := 1) (v := .int 0) (ty := .int) (C := RZ) (T := TZ) (N := 5) hx hb hts hu tyZ tyZ_ok nmZ hown hK hP hD hS 5 rfl rfl 4 (by decide) hF52 (fun _ h9 => h9) rfl (by decide +kernel) rfl rfl (Nat.le_of_ble_eq_true rfl) dZ_place_2 (fun H locs hP hD hS => ?_)
  have hP : va_P D vwD (wM p0 p1 p2 p3 p4 h r1 f1 s1 cI R F S cn 0) H := hP
  have hD : va_D A (wM p0 p1 p2 p3 p4 h r1 f1 s1 cI R F S cn 0) := hD
  refine lv_aload_n hx hb dZ_place_5 rfl (lv_at hl 0 rfl) ?_
  refine lv_iload_n hx hb dZ_place_6 rfl (lv_at hl 1 rfl) ?_
  refine r_c (rm := ({ frames := 7, cells := 1, slots := 6, locals := 140 } : Room)) (As := [.int ee]) (rest := []) (j_place l D ad cI cJ p0 p1 p2 p3 p4 h r1 f1 s1 R F S cn 0 ee hl9 hR) SC (cwV 1 hts gZ_place_Z_place0 rfl rfl rfl (by decide +kernel) ⟨Nat.le_of_ble_eq_true rfl, Nat.le_of_ble_eq_true rfl⟩) hP hK hD hS hA hX 5 rfl rfl rfl hl.1 rfl (Nat.le_of_ble_eq_true rfl) dZ_place_7 ⟨Nat.le_of_ble_eq_true rfl, Nat.le_of_ble_eq_true rfl⟩ (fun E ce q9 H locs _ hE hP hD hS hce hcv hcl => ?_) (fun H locs hk0 _ _ _ => absurd hk0 hk)
  rcases rk_kP_r ee cn with h9 | h9
  · exact absurd h9 hk
  · have hE : E = "java/util/NoSuchElementException" := by rw [hE, h9]; rfl
    subst hE
    refine vx_catch (own := RZ) (name := "java/util/NoSuchElementException") (E := "java/util/NoSuchElementException") hown [] ⟨5, 10, 11, 26⟩ [] (by rw [hTab]; rfl) (fun z hz => nomatch hz) (by decide) (by decide) (hts (.classLink RZ 26 "java/util/NoSuchElementException") (by decide +kernel)) (va_Nw.use rfl (hX.2.1 _ (List.mem_of_getElem? (i := 1) rfl))) hce hcv hcl ?_
    refine lv_astore_n (lv' := [(2, .ref q9), (0, .ref h), (1, .int ee)]) hx hb dZ_place_11 rfl hl (by decide) rfl (fun ls hl => ?_)
    refine lv_aload_n hx hb dZ_place_12 rfl (lv_at hl 1 rfl) ?_
    refine lv_iconst (v := 1) hx hb dZ_place_13 (by decide) ?_
    refine va_put (D := D) (ci := 1) (v := .int 1) (ty := .int) (C := RZ) (T := TZ) (N := 5) hx hb hts hu tyZ tyZ_ok nmZ hown hK hP hD hS 5 rfl rfl 4 (by decide) hF52 (fun _ h9 => h9) rfl (by decide +kernel) rfl rfl (Nat.le_of_ble_eq_true rfl) dZ_place_14 (fun H locs hP hD hS => ?_)
    have hP : va_P D vwD (wM p0 p1 p2 p3 p4 h r1 f1 s1 cI R F S cn 1) H := hP
    have hD : va_D A (wM p0 p1 p2 p3 p4 h r1 f1 s1 cI R F S cn 1) := hD
    refine lv_iconst (v := 0) hx hb dZ_place_17 (by decide) ?_
    exact e_i hx hb hr hlocks hP hK hD hS dZ_place_18 (Nat.le_of_ble_eq_true rfl) (Nat.le_of_ble_eq_true rfl)
set_option maxHeartbeats 4000000 in
set_option maxRecDepth 100000 in
theorem p_entries (l : Launch) (D : va_G) (ad : Nat → Nat) (cI cJ : ClassId) (p0 p1 p2 p3 p4 : Nat × va_E) (h r1 f1 s1 : Nat) (R F S : Nat → Int32) (cn : Nat) (th : Int32)  : uI l yZ_entries wsZ_entries ({ frames := 1, cells := 0, slots := 0, locals := 40 } : Room) D ad [(cI, .int), (cJ, .long)] [.ref h] (wM p0 p1 p2 p3 p4 h r1 f1 s1 cI R F S cn th) (wM p0 p1 p2 p3 p4 h r1 f1 s1 cI R F S cn 0) (nI cn) 0 0 := by
  unfold uI
  refine st_M (Qc := qI D [(cI, .int), (cJ, .long)] (wM p0 p1 p2 p3 p4 h r1 f1 s1 cI R F S cn 0) (nI cn)) (mc := 0) (ms := 0) (cc := cZ_entries) (maxL := 1) (ret := (some .int)) [.ref h] (by decide) rfl (Nat.le_of_ble_eq_true rfl) (fun p en s m below meth c A ls hx hb hr hlocks hml hts hown hA hS hP hK hD hX hl => ?_)
  have hown : s.vm.findClass RZ = some m.cls := hown
  have hl : lv_has ls 1 [(0, .ref h)] := hl
  have hu : ∀ w ∈ u_ws RZ TZ 5, w ∈ wsZ_entries := fun w h => List.mem_cons_of_mem _ (wsZ0_in w h)
  have hF52 := hts (.fieldLink RZ 52 "RankRowsModel" "thrown" "I") (by decide +kernel)
  have SC : CallFix p m c cZ_entries 1 s ([.ref h] : List Value).toArray wsZ_entries RZ := ⟨hx, hb, hml, hown, hts⟩
  refine lv_aload_n hx hb dZ_entries_0 rfl (lv_at hl 0 rfl) ?_
  refine lv_iconst (v := 0) hx hb dZ_entries_1 (by decide) ?_
  refine va_put (D := D) (ci := 1) (v := .int 0) (ty := .int) (C := RZ) (T := TZ) (N := 5) hx hb hts hu tyZ tyZ_ok nmZ hown hK hP hD hS 5 rfl rfl 4 (by decide) hF52 (fun _ h9 => h9) rfl (by decide +kernel) rfl rfl (Nat.le_of_ble_eq_true rfl) dZ_entries_2 (fun H locs hP hD hS => ?_)
  have hP : va_P D vwD (wM p0 p1 p2 p3 p4 h r1 f1 s1 cI R F S cn 0) H := hP
  have hD : va_D A (wM p0 p1 p2 p3 p4 h r1 f1 s1 cI R F S cn 0) := hD
  refine lv_aload_n hx hb dZ_entries_5 rfl (lv_at hl 0 rfl) ?_
  refine r_i (rm := ({ frames := 0, cells := 0, slots := 0, locals := 0 } : Room)) (As := []) (rest := []) (j_en l D ad cI cJ p0 p1 p2 p3 p4 h r1 f1 s1 R F S cn 0) SC (cwV 0 hts gZ_entries_Z_entries0 rfl rfl rfl (by decide +kernel) ⟨Nat.le_of_ble_eq_true rfl, Nat.le_of_ble_eq_true rfl⟩) hP hK hD hS hA hX 5 rfl rfl rfl hl.1 rfl (Nat.le_of_ble_eq_true rfl) dZ_entries_6 ⟨Nat.le_of_ble_eq_true rfl, Nat.le_of_ble_eq_true rfl⟩ (fun H locs hP hD hS => ?_)
  have hP : va_P D vwD (wM p0 p1 p2 p3 p4 h r1 f1 s1 cI R F S cn 0) H := hP
  have hD : va_D A (wM p0 p1 p2 p3 p4 h r1 f1 s1 cI R F S cn 0) := hD
  exact e_i hx hb hr hlocks hP hK hD hS dZ_entries_9 (Nat.le_of_ble_eq_true rfl) (Nat.le_of_ble_eq_true rfl)
end
section
/-! The two constructors -/
set_option maxHeartbeats 4000000 in
set_option maxRecDepth 100000 in
theorem k_init (l : Launch) (D : va_G) (ad : Nat → Nat) (cI cJ : ClassId) (h : Nat)  : ∀ sz : Nat, Met l yX0_init wsX0_init ({ frames := 1, cells := 3, slots := 12000, locals := 40 } : Room) (va_Pc [.ref h] (pr D ad [(cI, .int), (cJ, .long)] ([(h, .inr (0, [.null, .null, .null, .int 0]))]) sz)) (qN D [(cI, .int), (cJ, .long)] (fun u : Nat × Nat × Nat => wX h u.1 u.2.1 u.2.2 cI (fun _ => 0) (fun _ => 0) (fun _ => 0) 0 []) (va_A ([(h, .inr (0, [.null, .null, .null, .int 0]))]) sz)) 3 12000 (va_A ([(h, .inr (0, [.null, .null, .null, .int 0]))]) sz) := by
  refine st_N (Qc := qN D [(cI, .int), (cJ, .long)] (fun u : Nat × Nat × Nat => wX h u.1 u.2.1 u.2.2 cI (fun _ => 0) (fun _ => 0) (fun _ => 0) 0 [])) (mc := 3) (ms := 12000) (cc := cX0_init) (maxL := 1) (ret := none) [.ref h] (by decide) rfl (Nat.le_of_ble_eq_true rfl) (fun p en s m below meth c A ls hinit hx hb hr hlocks hml hts hown hA hS hP hK hD hX hl => ?_)
  have hown : s.vm.findClass RX0 = some m.cls := hown
  have hl : lv_has ls 1 [(0, .ref h)] := hl
  have hu : ∀ w ∈ u_ws RX0 TX0 4, w ∈ wsX0_init := by decide +kernel
  have hF9 := hts (.fieldLink RX0 9 "RankRows" "row" "[I") (by decide +kernel)
  have hF13 := hts (.fieldLink RX0 13 "RankRows" "firsts" "[I") (by decide +kernel)
  have hF16 := hts (.fieldLink RX0 16 "RankRows" "seconds" "[I") (by decide +kernel)
  have hF19 := hts (.fieldLink RX0 19 "RankRows" "count" "I") (by decide +kernel)
  have SC : CallFix p m c cX0_init 1 s ([.ref h] : List Value).toArray wsX0_init RX0 := ⟨hx, hb, hml, hown, hts⟩
  have hin : meth.name = "<init>" := hinit
  refine lv_aload_n hx hb dX0_init_0 rfl (lv_at hl 0 rfl) ?_
  refine W.objInit hx hb hown (hts (.methodLink RX0 1 objectInit) (by decide +kernel)) (hts (.instanceMethod objectInit) (by decide +kernel)) (hts (.code objectInit ⟨#[0xb1]⟩ 1 none) (by decide +kernel)) rfl (by rw [hml]; exact hl.1) rfl dX0_init_1 (Nat.le_of_ble_eq_true rfl) (Nat.le_of_ble_eq_true rfl) ?_
  refine W.eq (g2 := F0 m 4 ls []) rfl ?_
  refine lv_aload_n hx hb dX0_init_4 rfl (lv_at hl 0 rfl) ?_
  refine lv_sipush (v := 4000) hx hb dX0_init_5 (by decide) ?_
  refine q_newi hx hb (hts (.arrayClass .int) (by decide +kernel)) hK hP hD hS hA (Nat.le_of_ble_eq_true rfl) (Nat.le_of_ble_eq_true rfl) dX0_init_8 (fun r1 H hP hD hS => ?_)
  have hP : va_P D vwD ([(h, .inr (0, [.null, .null, .null, .int 0])), (r1, .inl (cI, 4000, .inl (fun _ => 0)))]) H := hP
  have hD : va_D A ([(h, .inr (0, [.null, .null, .null, .int 0])), (r1, .inl (cI, 4000, .inl (fun _ => 0)))]) := hD
  refine va_putF (D := D) (ci := 0) (v := .ref r1) (ty := .array .int) (C := RX0) (T := TX0) (N := 4) hx hb hts hu tyX0 tyX0_ok nmX0 hown hK hP hD hS 0 rfl rfl 0 (by decide) hF9 (fun _ h9 => h9) rfl hin rfl (by decide +kernel) rfl rfl (Nat.le_of_ble_eq_true rfl) dX0_init_10 (fun H locs hP hD hS => ?_)
  have hP : va_P D vwD ([(h, .inr (0, [.ref r1, .null, .null, .int 0])), (r1, .inl (cI, 4000, .inl (fun _ => 0)))]) H := hP
  have hD : va_D A ([(h, .inr (0, [.ref r1, .null, .null, .int 0])), (r1, .inl (cI, 4000, .inl (fun _ => 0)))]) := hD
  refine lv_aload_n hx hb dX0_init_13 rfl (lv_at hl 0 rfl) ?_
  refine lv_sipush (v := 4000) hx hb dX0_init_14 (by decide) ?_
  refine q_newi hx hb (hts (.arrayClass .int) (by decide +kernel)) hK hP hD hS hA (Nat.le_of_ble_eq_true rfl) (Nat.le_of_ble_eq_true rfl) dX0_init_17 (fun f1 H hP hD hS => ?_)
  have hP : va_P D vwD ([(h, .inr (0, [.ref r1, .null, .null, .int 0])), (r1, .inl (cI, 4000, .inl (fun _ => 0))), (f1, .inl (cI, 4000, .inl (fun _ => 0)))]) H := hP
  have hD : va_D A ([(h, .inr (0, [.ref r1, .null, .null, .int 0])), (r1, .inl (cI, 4000, .inl (fun _ => 0))), (f1, .inl (cI, 4000, .inl (fun _ => 0)))]) := hD
  refine va_putF (D := D) (ci := 0) (v := .ref f1) (ty := .array .int) (C := RX0) (T := TX0) (N := 4) hx hb hts hu tyX0 tyX0_ok nmX0 hown hK hP hD hS 0 rfl rfl 1 (by decide) hF13 (fun _ h9 => h9) rfl hin rfl (by decide +kernel) rfl rfl (Nat.le_of_ble_eq_true rfl) dX0_init_19 (fun H locs hP hD hS => ?_)
  have hP : va_P D vwD ([(h, .inr (0, [.ref r1, .ref f1, .null, .int 0])), (r1, .inl (cI, 4000, .inl (fun _ => 0))), (f1, .inl (cI, 4000, .inl (fun _ => 0)))]) H := hP
  have hD : va_D A ([(h, .inr (0, [.ref r1, .ref f1, .null, .int 0])), (r1, .inl (cI, 4000, .inl (fun _ => 0))), (f1, .inl (cI, 4000, .inl (fun _ => 0)))]) := hD
  refine lv_aload_n hx hb dX0_init_22 rfl (lv_at hl 0 rfl) ?_
  refine lv_sipush (v := 4000) hx hb dX0_init_23 (by decide) ?_
  refine q_newi hx hb (hts (.arrayClass .int) (by decide +kernel)) hK hP hD hS hA (Nat.le_of_ble_eq_true rfl) (Nat.le_of_ble_eq_true rfl) dX0_init_26 (fun s1 H hP hD hS => ?_)
  have hP : va_P D vwD ([(h, .inr (0, [.ref r1, .ref f1, .null, .int 0])), (r1, .inl (cI, 4000, .inl (fun _ => 0))), (f1, .inl (cI, 4000, .inl (fun _ => 0))), (s1, .inl (cI, 4000, .inl (fun _ => 0)))]) H := hP
  have hD : va_D A ([(h, .inr (0, [.ref r1, .ref f1, .null, .int 0])), (r1, .inl (cI, 4000, .inl (fun _ => 0))), (f1, .inl (cI, 4000, .inl (fun _ => 0))), (s1, .inl (cI, 4000, .inl (fun _ => 0)))]) := hD
  refine va_putF (D := D) (ci := 0) (v := .ref s1) (ty := .array .int) (C := RX0) (T := TX0) (N := 4) hx hb hts hu tyX0 tyX0_ok nmX0 hown hK hP hD hS 0 rfl rfl 2 (by decide) hF16 (fun _ h9 => h9) rfl hin rfl (by decide +kernel) rfl rfl (Nat.le_of_ble_eq_true rfl) dX0_init_28 (fun H locs hP hD hS => ?_)
  have hP : va_P D vwD ([(h, .inr (0, [.ref r1, .ref f1, .ref s1, .int 0])), (r1, .inl (cI, 4000, .inl (fun _ => 0))), (f1, .inl (cI, 4000, .inl (fun _ => 0))), (s1, .inl (cI, 4000, .inl (fun _ => 0)))]) H := hP
  have hD : va_D A ([(h, .inr (0, [.ref r1, .ref f1, .ref s1, .int 0])), (r1, .inl (cI, 4000, .inl (fun _ => 0))), (f1, .inl (cI, 4000, .inl (fun _ => 0))), (s1, .inl (cI, 4000, .inl (fun _ => 0)))]) := hD
  refine lv_aload_n hx hb dX0_init_31 rfl (lv_at hl 0 rfl) ?_
  refine lv_iconst (v := 0) hx hb dX0_init_32 (by decide) ?_
  refine va_put (D := D) (ci := 0) (v := .int 0) (ty := .int) (C := RX0) (T := TX0) (N := 4) hx hb hts hu tyX0 tyX0_ok nmX0 hown hK hP hD hS 0 rfl rfl 3 (by decide) hF19 (fun _ h9 => h9) rfl (by decide +kernel) rfl rfl (Nat.le_of_ble_eq_true rfl) dX0_init_33 (fun H locs hP hD hS => ?_)
  have hP : va_P D vwD ([(h, .inr (0, [.ref r1, .ref f1, .ref s1, .int 0])), (r1, .inl (cI, 4000, .inl (fun _ => 0))), (f1, .inl (cI, 4000, .inl (fun _ => 0))), (s1, .inl (cI, 4000, .inl (fun _ => 0)))]) H := hP
  have hD : va_D A ([(h, .inr (0, [.ref r1, .ref f1, .ref s1, .int 0])), (r1, .inl (cI, 4000, .inl (fun _ => 0))), (f1, .inl (cI, 4000, .inl (fun _ => 0))), (s1, .inl (cI, 4000, .inl (fun _ => 0)))]) := hD
  exact e_n (r1, f1, s1) hx hb hr hlocks hP hK hD hS dX0_init_36 (Nat.le_of_ble_eq_true rfl) (Nat.le_of_ble_eq_true rfl)
set_option maxHeartbeats 4000000 in
set_option maxRecDepth 100000 in
theorem j_init (l : Launch) (D : va_G) (ad : Nat → Nat) (cI cJ : ClassId) (p0 p1 p2 p3 : Nat × va_E) (h : Nat)  : ∀ sz : Nat, Met l yZ_init wsZ_init ({ frames := 1, cells := 3, slots := 12000, locals := 40 } : Room) (va_Pc [.ref h] (pr D ad [(cI, .int), (cJ, .long)] ([p0, p1, p2, p3, (h, .inr (1, [.null, .null, .null, .int 0, .int 0]))]) sz)) (qN D [(cI, .int), (cJ, .long)] (fun u : Nat × Nat × Nat => p0 :: p1 :: p2 :: p3 :: (h, .inr (1, [.ref u.1, .ref u.2.1, .ref u.2.2, .int (nI 0), .int 0])) :: (u.1, .inl (cI, 4000, .inl (fun _ => 0))) :: (u.2.1, .inl (cI, 4000, .inl (fun _ => 0))) :: (u.2.2, .inl (cI, 4000, .inl (fun _ => 0))) :: []) (va_A ([p0, p1, p2, p3, (h, .inr (1, [.null, .null, .null, .int 0, .int 0]))]) sz)) 3 12000 (va_A ([p0, p1, p2, p3, (h, .inr (1, [.null, .null, .null, .int 0, .int 0]))]) sz) := by
  refine st_N (Qc := qN D [(cI, .int), (cJ, .long)] (fun u : Nat × Nat × Nat => p0 :: p1 :: p2 :: p3 :: (h, .inr (1, [.ref u.1, .ref u.2.1, .ref u.2.2, .int (nI 0), .int 0])) :: (u.1, .inl (cI, 4000, .inl (fun _ => 0))) :: (u.2.1, .inl (cI, 4000, .inl (fun _ => 0))) :: (u.2.2, .inl (cI, 4000, .inl (fun _ => 0))) :: [])) (mc := 3) (ms := 12000) (cc := cZ_init) (maxL := 1) (ret := none) [.ref h] (by decide) rfl (Nat.le_of_ble_eq_true rfl) (fun p en s m below meth c A ls hinit hx hb hr hlocks hml hts hown hA hS hP hK hD hX hl => ?_)
  have hown : s.vm.findClass RZ = some m.cls := hown
  have hl : lv_has ls 1 [(0, .ref h)] := hl
  have hu : ∀ w ∈ u_ws RZ TZ 5, w ∈ wsZ_init := fun w h => List.mem_cons_of_mem _ (wsZ0_in w h)
  have hF9 := hts (.fieldLink RZ 9 "RankRowsModel" "row" "[I") (by decide +kernel)
  have hF13 := hts (.fieldLink RZ 13 "RankRowsModel" "first" "[I") (by decide +kernel)
  have hF16 := hts (.fieldLink RZ 16 "RankRowsModel" "second" "[I") (by decide +kernel)
  have SC : CallFix p m c cZ_init 1 s ([.ref h] : List Value).toArray wsZ_init RZ := ⟨hx, hb, hml, hown, hts⟩
  have hin : meth.name = "<init>" := hinit
  refine lv_aload_n hx hb dZ_init_0 rfl (lv_at hl 0 rfl) ?_
  refine W.objInit hx hb hown (hts (.methodLink RZ 1 objectInit) (by decide +kernel)) (hts (.instanceMethod objectInit) (by decide +kernel)) (hts (.code objectInit ⟨#[0xb1]⟩ 1 none) (by decide +kernel)) rfl (by rw [hml]; exact hl.1) rfl dZ_init_1 (Nat.le_of_ble_eq_true rfl) (Nat.le_of_ble_eq_true rfl) ?_
  refine W.eq (g2 := F0 m 4 ls []) rfl ?_
  refine lv_aload_n hx hb dZ_init_4 rfl (lv_at hl 0 rfl) ?_
  refine lv_sipush (v := 4000) hx hb dZ_init_5 (by decide) ?_
  refine q_newi hx hb (hts (.arrayClass .int) (by decide +kernel)) hK hP hD hS hA (Nat.le_of_ble_eq_true rfl) (Nat.le_of_ble_eq_true rfl) dZ_init_8 (fun r1 H hP hD hS => ?_)
  have hP : va_P D vwD ([p0, p1, p2, p3, (h, .inr (1, [.null, .null, .null, .int 0, .int 0])), (r1, .inl (cI, 4000, .inl (fun _ => 0)))]) H := hP
  have hD : va_D A ([p0, p1, p2, p3, (h, .inr (1, [.null, .null, .null, .int 0, .int 0])), (r1, .inl (cI, 4000, .inl (fun _ => 0)))]) := hD
  refine va_putF (D := D) (ci := 1) (v := .ref r1) (ty := .array .int) (C := RZ) (T := TZ) (N := 5) hx hb hts hu tyZ tyZ_ok nmZ hown hK hP hD hS 4 rfl rfl 0 (by decide) hF9 (fun _ h9 => h9) rfl hin rfl (by decide +kernel) rfl rfl (Nat.le_of_ble_eq_true rfl) dZ_init_10 (fun H locs hP hD hS => ?_)
  have hP : va_P D vwD ([p0, p1, p2, p3, (h, .inr (1, [.ref r1, .null, .null, .int 0, .int 0])), (r1, .inl (cI, 4000, .inl (fun _ => 0)))]) H := hP
  have hD : va_D A ([p0, p1, p2, p3, (h, .inr (1, [.ref r1, .null, .null, .int 0, .int 0])), (r1, .inl (cI, 4000, .inl (fun _ => 0)))]) := hD
  refine lv_aload_n hx hb dZ_init_13 rfl (lv_at hl 0 rfl) ?_
  refine lv_sipush (v := 4000) hx hb dZ_init_14 (by decide) ?_
  refine q_newi hx hb (hts (.arrayClass .int) (by decide +kernel)) hK hP hD hS hA (Nat.le_of_ble_eq_true rfl) (Nat.le_of_ble_eq_true rfl) dZ_init_17 (fun f1 H hP hD hS => ?_)
  have hP : va_P D vwD ([p0, p1, p2, p3, (h, .inr (1, [.ref r1, .null, .null, .int 0, .int 0])), (r1, .inl (cI, 4000, .inl (fun _ => 0))), (f1, .inl (cI, 4000, .inl (fun _ => 0)))]) H := hP
  have hD : va_D A ([p0, p1, p2, p3, (h, .inr (1, [.ref r1, .null, .null, .int 0, .int 0])), (r1, .inl (cI, 4000, .inl (fun _ => 0))), (f1, .inl (cI, 4000, .inl (fun _ => 0)))]) := hD
  refine va_putF (D := D) (ci := 1) (v := .ref f1) (ty := .array .int) (C := RZ) (T := TZ) (N := 5) hx hb hts hu tyZ tyZ_ok nmZ hown hK hP hD hS 4 rfl rfl 1 (by decide) hF13 (fun _ h9 => h9) rfl hin rfl (by decide +kernel) rfl rfl (Nat.le_of_ble_eq_true rfl) dZ_init_19 (fun H locs hP hD hS => ?_)
  have hP : va_P D vwD ([p0, p1, p2, p3, (h, .inr (1, [.ref r1, .ref f1, .null, .int 0, .int 0])), (r1, .inl (cI, 4000, .inl (fun _ => 0))), (f1, .inl (cI, 4000, .inl (fun _ => 0)))]) H := hP
  have hD : va_D A ([p0, p1, p2, p3, (h, .inr (1, [.ref r1, .ref f1, .null, .int 0, .int 0])), (r1, .inl (cI, 4000, .inl (fun _ => 0))), (f1, .inl (cI, 4000, .inl (fun _ => 0)))]) := hD
  refine lv_aload_n hx hb dZ_init_22 rfl (lv_at hl 0 rfl) ?_
  refine lv_sipush (v := 4000) hx hb dZ_init_23 (by decide) ?_
  refine q_newi hx hb (hts (.arrayClass .int) (by decide +kernel)) hK hP hD hS hA (Nat.le_of_ble_eq_true rfl) (Nat.le_of_ble_eq_true rfl) dZ_init_26 (fun s1 H hP hD hS => ?_)
  have hP : va_P D vwD ([p0, p1, p2, p3, (h, .inr (1, [.ref r1, .ref f1, .null, .int 0, .int 0])), (r1, .inl (cI, 4000, .inl (fun _ => 0))), (f1, .inl (cI, 4000, .inl (fun _ => 0))), (s1, .inl (cI, 4000, .inl (fun _ => 0)))]) H := hP
  have hD : va_D A ([p0, p1, p2, p3, (h, .inr (1, [.ref r1, .ref f1, .null, .int 0, .int 0])), (r1, .inl (cI, 4000, .inl (fun _ => 0))), (f1, .inl (cI, 4000, .inl (fun _ => 0))), (s1, .inl (cI, 4000, .inl (fun _ => 0)))]) := hD
  refine va_putF (D := D) (ci := 1) (v := .ref s1) (ty := .array .int) (C := RZ) (T := TZ) (N := 5) hx hb hts hu tyZ tyZ_ok nmZ hown hK hP hD hS 4 rfl rfl 2 (by decide) hF16 (fun _ h9 => h9) rfl hin rfl (by decide +kernel) rfl rfl (Nat.le_of_ble_eq_true rfl) dZ_init_28 (fun H locs hP hD hS => ?_)
  have hP : va_P D vwD ([p0, p1, p2, p3, (h, .inr (1, [.ref r1, .ref f1, .ref s1, .int 0, .int 0])), (r1, .inl (cI, 4000, .inl (fun _ => 0))), (f1, .inl (cI, 4000, .inl (fun _ => 0))), (s1, .inl (cI, 4000, .inl (fun _ => 0)))]) H := hP
  have hD : va_D A ([p0, p1, p2, p3, (h, .inr (1, [.ref r1, .ref f1, .ref s1, .int 0, .int 0])), (r1, .inl (cI, 4000, .inl (fun _ => 0))), (f1, .inl (cI, 4000, .inl (fun _ => 0))), (s1, .inl (cI, 4000, .inl (fun _ => 0)))]) := hD
  exact e_n (r1, f1, s1) hx hb hr hlocks hP hK hD hS dZ_init_31 (Nat.le_of_ble_eq_true rfl) (Nat.le_of_ble_eq_true rfl)
end
section
/-! The law's wrappers -/
set_option maxHeartbeats 4000000 in
set_option maxRecDepth 100000 in
theorem w_behind_ok (l : Launch) (D : va_G) (ad : Nat → Nat) (cI cJ : ClassId) (tt : va_W) (h r1 f1 s1 o : Nat) (R F S : Nat → Int32) (cn : Nat) (g : Nat → Int64) (ee n a b : Int32) (hl9 : l.stackTraces = false) (hR : rk_ok R cn) (hk : rk_kB ee n a b cn = 0) : uI l yL_behind wsL_behind ({ frames := 9, cells := 1, slots := 6, locals := 200 } : Room) D ad [(cI, .int), (cJ, .long)] [.ref h, .int ee, .int n, .int a, .int b, .ref o] (wX h r1 f1 s1 cI R F S cn ((o, .inl (cJ, 1, .inr (.inl g))) :: tt)) (wX h r1 f1 s1 cI (rk_in R cn (rk_pb R ee cn) n.toNatClampNeg) (rk_fl F cn n.toNatClampNeg a) (rk_fl S cn n.toNatClampNeg b) (cn + n.toNatClampNeg) ((o, .inl (cJ, 1, .inr (.inl (vp_updL g 0 ((nI (cn + n.toNatClampNeg) - 1).toInt64))))) :: tt)) (0) 1 6 := by
  unfold uI
  refine st_W (Qc := qI D [(cI, .int), (cJ, .long)] (wX h r1 f1 s1 cI (rk_in R cn (rk_pb R ee cn) n.toNatClampNeg) (rk_fl F cn n.toNatClampNeg a) (rk_fl S cn n.toNatClampNeg b) (cn + n.toNatClampNeg) ((o, .inl (cJ, 1, .inr (.inl (vp_updL g 0 ((nI (cn + n.toNatClampNeg) - 1).toInt64))))) :: tt)) 0) (hh := [(0, 14, 17, 13), (0, 14, 21, 15), (0, 14, 25, 17)]) (mc := 1) (ms := 6) (cc := cL_behind) (maxL := 7) (ret := (some .int)) [.ref h, .int ee, .int n, .int a, .int b, .ref o] (by decide) rfl (Nat.le_of_ble_eq_true rfl) (fun p en s m below meth c A ls hTab hx hb hr hlocks hml hts hown hA hS hP hK hD hX hl => ?_)
  have hown : s.vm.findClass RL = some m.cls := hown
  have hl : lv_has ls 7 [(0, .ref h), (1, .int ee), (2, .int n), (3, .int a), (4, .int b), (5, .ref o)] := hl
  have SC : CallFix p m c cL_behind 7 s ([.ref h, .int ee, .int n, .int a, .int b, .ref o] : List Value).toArray wsL_behind RL := ⟨hx, hb, hml, hown, hts⟩
  refine lv_aload hx hb dL_behind_0 (lv_at hl 5 rfl) ?_
  refine lv_iconst (v := 0) hx hb dL_behind_2 (by decide) ?_
  refine lv_aload_n hx hb dL_behind_3 rfl (lv_at hl 0 rfl) ?_
  refine lv_iload_n hx hb dL_behind_4 rfl (lv_at hl 1 rfl) ?_
  refine lv_iload_n hx hb dL_behind_5 rfl (lv_at hl 2 rfl) ?_
  refine lv_iload_n hx hb dL_behind_6 rfl (lv_at hl 3 rfl) ?_
  refine lv_iload hx hb dL_behind_7 (lv_at hl 4 rfl) ?_
  refine r_c (rm := ({ frames := 8, cells := 1, slots := 6, locals := 160 } : Room)) (As := [.int ee, .int n, .int a, .int b]) (rest := [.int 0, .ref o]) (m_behind l D ad cI cJ ((o, .inl (cJ, 1, .inr (.inl g))) :: tt) h r1 f1 s1 R F S cn ee n a b hl9 hR) SC (cwV 4 hts gL_behind_X0_behind rfl rfl rfl (by decide +kernel) ⟨Nat.le_of_ble_eq_true rfl, Nat.le_of_ble_eq_true rfl⟩) hP hK hD hS hA hX 0 rfl rfl rfl hl.1 rfl (Nat.le_of_ble_eq_true rfl) dL_behind_9 ⟨Nat.le_of_ble_eq_true rfl, Nat.le_of_ble_eq_true rfl⟩ (fun E ce q9 H locs hk0 _ _ _ _ _ _ _ => absurd hk hk0) (fun H locs _ hP hD hS => ?_)
  have hP : va_P D vwD (wX h r1 f1 s1 cI (rk_in R cn (rk_pb R ee cn) n.toNatClampNeg) (rk_fl F cn n.toNatClampNeg a) (rk_fl S cn n.toNatClampNeg b) (cn + n.toNatClampNeg) ((o, .inl (cJ, 1, .inr (.inl g))) :: tt)) H := hP
  have hD : va_D A (wX h r1 f1 s1 cI (rk_in R cn (rk_pb R ee cn) n.toNatClampNeg) (rk_fl F cn n.toNatClampNeg a) (rk_fl S cn n.toNatClampNeg b) (cn + n.toNatClampNeg) ((o, .inl (cJ, 1, .inr (.inl g))) :: tt)) := hD
  refine lv_i2l hx hb dL_behind_12 rfl ?_
  refine va_last hx hb hK hP hD hS 4 1 rfl rfl (vp_in_nI (n := 0) (N := 1) (by decide) (by decide)) dL_behind_13 (fun H locs hP hD hS => ?_)
  rw [sb_cl0] at hP hD
  have hP : va_P D vwD (wX h r1 f1 s1 cI (rk_in R cn (rk_pb R ee cn) n.toNatClampNeg) (rk_fl F cn n.toNatClampNeg a) (rk_fl S cn n.toNatClampNeg b) (cn + n.toNatClampNeg) ((o, .inl (cJ, 1, .inr (.inl (vp_updL g 0 (((nI (cn + n.toNatClampNeg) - 1)).toInt64))))) :: tt)) H := hP
  have hD : va_D A (wX h r1 f1 s1 cI (rk_in R cn (rk_pb R ee cn) n.toNatClampNeg) (rk_fl F cn n.toNatClampNeg a) (rk_fl S cn n.toNatClampNeg b) (cn + n.toNatClampNeg) ((o, .inl (cJ, 1, .inr (.inl (vp_updL g 0 (((nI (cn + n.toNatClampNeg) - 1)).toInt64))))) :: tt)) := hD
  refine lv_goto (tgt := 29) hx hb dL_behind_14 (by decide) ?_
  refine lv_iconst (v := 0) hx hb dL_behind_29 (by decide) ?_
  exact e_i hx hb hr hlocks hP hK hD hS dL_behind_30 (Nat.le_of_ble_eq_true rfl) (Nat.le_of_ble_eq_true rfl)
set_option maxHeartbeats 4000000 in
set_option maxRecDepth 100000 in
theorem w_behind_bad (l : Launch) (D : va_G) (ad : Nat → Nat) (cI cJ : ClassId) (tt : va_W) (h r1 f1 s1 o : Nat) (R F S : Nat → Int32) (cn : Nat) (g : Nat → Int64) (ee n a b : Int32) (hl9 : l.stackTraces = false) (hR : rk_ok R cn) (hk : rk_kB ee n a b cn ≠ 0) : uI l yL_behind wsL_behind ({ frames := 9, cells := 1, slots := 6, locals := 200 } : Room) D ad [(cI, .int), (cJ, .long)] [.ref h, .int ee, .int n, .int a, .int b, .ref o] (wX h r1 f1 s1 cI R F S cn ((o, .inl (cJ, 1, .inr (.inl g))) :: tt)) (wX h r1 f1 s1 cI R F S cn ((o, .inl (cJ, 1, .inr (.inl g))) :: tt)) (nI (rk_kB ee n a b cn)) 1 6 := by
  unfold uI
  refine st_W (Qc := qI D [(cI, .int), (cJ, .long)] (wX h r1 f1 s1 cI R F S cn ((o, .inl (cJ, 1, .inr (.inl g))) :: tt)) (nI (rk_kB ee n a b cn))) (hh := [(0, 14, 17, 13), (0, 14, 21, 15), (0, 14, 25, 17)]) (mc := 1) (ms := 6) (cc := cL_behind) (maxL := 7) (ret := (some .int)) [.ref h, .int ee, .int n, .int a, .int b, .ref o] (by decide) rfl (Nat.le_of_ble_eq_true rfl) (fun p en s m below meth c A ls hTab hx hb hr hlocks hml hts hown hA hS hP hK hD hX hl => ?_)
  have hown : s.vm.findClass RL = some m.cls := hown
  have hl : lv_has ls 7 [(0, .ref h), (1, .int ee), (2, .int n), (3, .int a), (4, .int b), (5, .ref o)] := hl
  have SC : CallFix p m c cL_behind 7 s ([.ref h, .int ee, .int n, .int a, .int b, .ref o] : List Value).toArray wsL_behind RL := ⟨hx, hb, hml, hown, hts⟩
  refine lv_aload hx hb dL_behind_0 (lv_at hl 5 rfl) ?_
  refine lv_iconst (v := 0) hx hb dL_behind_2 (by decide) ?_
  refine lv_aload_n hx hb dL_behind_3 rfl (lv_at hl 0 rfl) ?_
  refine lv_iload_n hx hb dL_behind_4 rfl (lv_at hl 1 rfl) ?_
  refine lv_iload_n hx hb dL_behind_5 rfl (lv_at hl 2 rfl) ?_
  refine lv_iload_n hx hb dL_behind_6 rfl (lv_at hl 3 rfl) ?_
  refine lv_iload hx hb dL_behind_7 (lv_at hl 4 rfl) ?_
  refine r_c (rm := ({ frames := 8, cells := 1, slots := 6, locals := 160 } : Room)) (As := [.int ee, .int n, .int a, .int b]) (rest := [.int 0, .ref o]) (m_behind l D ad cI cJ ((o, .inl (cJ, 1, .inr (.inl g))) :: tt) h r1 f1 s1 R F S cn ee n a b hl9 hR) SC (cwV 4 hts gL_behind_X0_behind rfl rfl rfl (by decide +kernel) ⟨Nat.le_of_ble_eq_true rfl, Nat.le_of_ble_eq_true rfl⟩) hP hK hD hS hA hX 0 rfl rfl rfl hl.1 rfl (Nat.le_of_ble_eq_true rfl) dL_behind_9 ⟨Nat.le_of_ble_eq_true rfl, Nat.le_of_ble_eq_true rfl⟩ (fun E ce q9 H locs _ hE hP hD hS hce hcv hcl => ?_) (fun H locs hk0 _ _ _ => absurd hk0 hk)
  rcases rk_kB_r ee n a b cn with h9 | h9 | h9 | h9
  · exact absurd h9 hk
  · have hE : E = "java/lang/IllegalArgumentException" := by rw [hE, h9]; rfl
    subst hE
    refine vx_catch (own := RL) (name := "java/lang/IllegalArgumentException") (E := "java/lang/IllegalArgumentException") hown [] ⟨0, 14, 17, 13⟩ [⟨0, 14, 21, 15⟩, ⟨0, 14, 25, 17⟩] (by rw [hTab]; rfl) (fun z hz => nomatch hz) (by decide) (by decide) (hts (.classLink RL 13 "java/lang/IllegalArgumentException") (by decide +kernel)) (va_Nw.use rfl (hX.2.1 _ (List.mem_of_getElem? (i := 0) rfl))) hce hcv hcl ?_
    refine lv_astore (lv' := [(6, .ref q9), (0, .ref h), (1, .int ee), (2, .int n), (3, .int a), (4, .int b), (5, .ref o)]) hx hb dL_behind_17 hl (by decide) rfl (fun ls hl => ?_)
    refine lv_iconst (v := 1) hx hb dL_behind_19 (by decide) ?_
    refine q_top (nI (rk_kB ee n a b cn)) (by rw [h9]; rfl) ?_
    exact e_i hx hb hr hlocks hP hK hD hS dL_behind_20 (Nat.le_of_ble_eq_true rfl) (Nat.le_of_ble_eq_true rfl)
  · have hE : E = "java/util/NoSuchElementException" := by rw [hE, h9]; rfl
    subst hE
    refine vx_catch (own := RL) (name := "java/util/NoSuchElementException") (E := "java/util/NoSuchElementException") hown [⟨0, 14, 17, 13⟩] ⟨0, 14, 21, 15⟩ [⟨0, 14, 25, 17⟩] (by rw [hTab]; rfl) (by
        intro z hz
        rcases List.mem_cons.mp hz with rfl | hz
        · exact Or.inr ⟨by decide, "java/lang/IllegalArgumentException", hts (.classLink RL 13 "java/lang/IllegalArgumentException") (by decide +kernel), hX.2.2.2.1.1⟩
        cases hz) (by decide) (by decide) (hts (.classLink RL 15 "java/util/NoSuchElementException") (by decide +kernel)) (va_Nw.use rfl (hX.2.1 _ (List.mem_of_getElem? (i := 1) rfl))) hce hcv hcl ?_
    refine lv_astore (lv' := [(6, .ref q9), (0, .ref h), (1, .int ee), (2, .int n), (3, .int a), (4, .int b), (5, .ref o)]) hx hb dL_behind_21 hl (by decide) rfl (fun ls hl => ?_)
    refine lv_iconst (v := 2) hx hb dL_behind_23 (by decide) ?_
    refine q_top (nI (rk_kB ee n a b cn)) (by rw [h9]; rfl) ?_
    exact e_i hx hb hr hlocks hP hK hD hS dL_behind_24 (Nat.le_of_ble_eq_true rfl) (Nat.le_of_ble_eq_true rfl)
  · have hE : E = "java/lang/IllegalStateException" := by rw [hE, h9]; rfl
    subst hE
    refine vx_catch (own := RL) (name := "java/lang/IllegalStateException") (E := "java/lang/IllegalStateException") hown [⟨0, 14, 17, 13⟩, ⟨0, 14, 21, 15⟩] ⟨0, 14, 25, 17⟩ [] (by rw [hTab]; rfl) (by
        intro z hz
        rcases List.mem_cons.mp hz with rfl | hz
        · exact Or.inr ⟨by decide, "java/lang/IllegalArgumentException", hts (.classLink RL 13 "java/lang/IllegalArgumentException") (by decide +kernel), hX.2.2.2.1.2.1⟩
        rcases List.mem_cons.mp hz with rfl | hz
        · exact Or.inr ⟨by decide, "java/util/NoSuchElementException", hts (.classLink RL 15 "java/util/NoSuchElementException") (by decide +kernel), hX.2.2.2.1.2.2⟩
        cases hz) (by decide) (by decide) (hts (.classLink RL 17 "java/lang/IllegalStateException") (by decide +kernel)) (va_Nw.use rfl (hX.2.1 _ (List.mem_of_getElem? (i := 2) rfl))) hce hcv hcl ?_
    refine lv_astore (lv' := [(6, .ref q9), (0, .ref h), (1, .int ee), (2, .int n), (3, .int a), (4, .int b), (5, .ref o)]) hx hb dL_behind_25 hl (by decide) rfl (fun ls hl => ?_)
    refine lv_iconst (v := 3) hx hb dL_behind_27 (by decide) ?_
    refine q_top (nI (rk_kB ee n a b cn)) (by rw [h9]; rfl) ?_
    exact e_i hx hb hr hlocks hP hK hD hS dL_behind_28 (Nat.le_of_ble_eq_true rfl) (Nat.le_of_ble_eq_true rfl)
set_option maxHeartbeats 4000000 in
set_option maxRecDepth 100000 in
theorem w_before_ok (l : Launch) (D : va_G) (ad : Nat → Nat) (cI cJ : ClassId) (tt : va_W) (h r1 f1 s1 o : Nat) (R F S : Nat → Int32) (cn : Nat) (g : Nat → Int64) (ee a b : Int32) (hl9 : l.stackTraces = false) (hR : rk_ok R cn) (hk : rk_kF ee a b cn = 0) : uI l yL_before wsL_before ({ frames := 9, cells := 1, slots := 6, locals := 200 } : Room) D ad [(cI, .int), (cJ, .long)] [.ref h, .int ee, .int a, .int b, .ref o] (wX h r1 f1 s1 cI R F S cn ((o, .inl (cJ, 1, .inr (.inl g))) :: tt)) (wX h r1 f1 s1 cI (rk_in R cn (rk_pl R ee cn) 1) (rk_fl F cn 1 a) (rk_fl S cn 1 b) (cn + 1) ((o, .inl (cJ, 1, .inr (.inl (vp_updL g 0 ((nI (cn + 1) - 1).toInt64))))) :: tt)) (0) 1 6 := by
  unfold uI
  refine st_W (Qc := qI D [(cI, .int), (cJ, .long)] (wX h r1 f1 s1 cI (rk_in R cn (rk_pl R ee cn) 1) (rk_fl F cn 1 a) (rk_fl S cn 1 b) (cn + 1) ((o, .inl (cJ, 1, .inr (.inl (vp_updL g 0 ((nI (cn + 1) - 1).toInt64))))) :: tt)) 0) (hh := [(0, 12, 15, 13), (0, 12, 19, 15), (0, 12, 23, 17)]) (mc := 1) (ms := 6) (cc := cL_before) (maxL := 6) (ret := (some .int)) [.ref h, .int ee, .int a, .int b, .ref o] (by decide) rfl (Nat.le_of_ble_eq_true rfl) (fun p en s m below meth c A ls hTab hx hb hr hlocks hml hts hown hA hS hP hK hD hX hl => ?_)
  have hown : s.vm.findClass RL = some m.cls := hown
  have hl : lv_has ls 6 [(0, .ref h), (1, .int ee), (2, .int a), (3, .int b), (4, .ref o)] := hl
  have SC : CallFix p m c cL_before 6 s ([.ref h, .int ee, .int a, .int b, .ref o] : List Value).toArray wsL_before RL := ⟨hx, hb, hml, hown, hts⟩
  refine lv_aload hx hb dL_before_0 (lv_at hl 4 rfl) ?_
  refine lv_iconst (v := 0) hx hb dL_before_2 (by decide) ?_
  refine lv_aload_n hx hb dL_before_3 rfl (lv_at hl 0 rfl) ?_
  refine lv_iload_n hx hb dL_before_4 rfl (lv_at hl 1 rfl) ?_
  refine lv_iload_n hx hb dL_before_5 rfl (lv_at hl 2 rfl) ?_
  refine lv_iload_n hx hb dL_before_6 rfl (lv_at hl 3 rfl) ?_
  refine r_c (rm := ({ frames := 8, cells := 1, slots := 6, locals := 160 } : Room)) (As := [.int ee, .int a, .int b]) (rest := [.int 0, .ref o]) (m_before l D ad cI cJ ((o, .inl (cJ, 1, .inr (.inl g))) :: tt) h r1 f1 s1 R F S cn ee a b hl9 hR) SC (cwV 3 hts gL_before_X0_before rfl rfl rfl (by decide +kernel) ⟨Nat.le_of_ble_eq_true rfl, Nat.le_of_ble_eq_true rfl⟩) hP hK hD hS hA hX 0 rfl rfl rfl hl.1 rfl (Nat.le_of_ble_eq_true rfl) dL_before_7 ⟨Nat.le_of_ble_eq_true rfl, Nat.le_of_ble_eq_true rfl⟩ (fun E ce q9 H locs hk0 _ _ _ _ _ _ _ => absurd hk hk0) (fun H locs _ hP hD hS => ?_)
  have hP : va_P D vwD (wX h r1 f1 s1 cI (rk_in R cn (rk_pl R ee cn) 1) (rk_fl F cn 1 a) (rk_fl S cn 1 b) (cn + 1) ((o, .inl (cJ, 1, .inr (.inl g))) :: tt)) H := hP
  have hD : va_D A (wX h r1 f1 s1 cI (rk_in R cn (rk_pl R ee cn) 1) (rk_fl F cn 1 a) (rk_fl S cn 1 b) (cn + 1) ((o, .inl (cJ, 1, .inr (.inl g))) :: tt)) := hD
  refine lv_i2l hx hb dL_before_10 rfl ?_
  refine va_last hx hb hK hP hD hS 4 1 rfl rfl (vp_in_nI (n := 0) (N := 1) (by decide) (by decide)) dL_before_11 (fun H locs hP hD hS => ?_)
  rw [sb_cl0] at hP hD
  have hP : va_P D vwD (wX h r1 f1 s1 cI (rk_in R cn (rk_pl R ee cn) 1) (rk_fl F cn 1 a) (rk_fl S cn 1 b) (cn + 1) ((o, .inl (cJ, 1, .inr (.inl (vp_updL g 0 (((nI (cn + 1) - 1)).toInt64))))) :: tt)) H := hP
  have hD : va_D A (wX h r1 f1 s1 cI (rk_in R cn (rk_pl R ee cn) 1) (rk_fl F cn 1 a) (rk_fl S cn 1 b) (cn + 1) ((o, .inl (cJ, 1, .inr (.inl (vp_updL g 0 (((nI (cn + 1) - 1)).toInt64))))) :: tt)) := hD
  refine lv_goto (tgt := 27) hx hb dL_before_12 (by decide) ?_
  refine lv_iconst (v := 0) hx hb dL_before_27 (by decide) ?_
  exact e_i hx hb hr hlocks hP hK hD hS dL_before_28 (Nat.le_of_ble_eq_true rfl) (Nat.le_of_ble_eq_true rfl)
set_option maxHeartbeats 4000000 in
set_option maxRecDepth 100000 in
theorem w_before_bad (l : Launch) (D : va_G) (ad : Nat → Nat) (cI cJ : ClassId) (tt : va_W) (h r1 f1 s1 o : Nat) (R F S : Nat → Int32) (cn : Nat) (g : Nat → Int64) (ee a b : Int32) (hl9 : l.stackTraces = false) (hR : rk_ok R cn) (hk : rk_kF ee a b cn ≠ 0) : uI l yL_before wsL_before ({ frames := 9, cells := 1, slots := 6, locals := 200 } : Room) D ad [(cI, .int), (cJ, .long)] [.ref h, .int ee, .int a, .int b, .ref o] (wX h r1 f1 s1 cI R F S cn ((o, .inl (cJ, 1, .inr (.inl g))) :: tt)) (wX h r1 f1 s1 cI R F S cn ((o, .inl (cJ, 1, .inr (.inl g))) :: tt)) (nI (rk_kF ee a b cn)) 1 6 := by
  unfold uI
  refine st_W (Qc := qI D [(cI, .int), (cJ, .long)] (wX h r1 f1 s1 cI R F S cn ((o, .inl (cJ, 1, .inr (.inl g))) :: tt)) (nI (rk_kF ee a b cn))) (hh := [(0, 12, 15, 13), (0, 12, 19, 15), (0, 12, 23, 17)]) (mc := 1) (ms := 6) (cc := cL_before) (maxL := 6) (ret := (some .int)) [.ref h, .int ee, .int a, .int b, .ref o] (by decide) rfl (Nat.le_of_ble_eq_true rfl) (fun p en s m below meth c A ls hTab hx hb hr hlocks hml hts hown hA hS hP hK hD hX hl => ?_)
  have hown : s.vm.findClass RL = some m.cls := hown
  have hl : lv_has ls 6 [(0, .ref h), (1, .int ee), (2, .int a), (3, .int b), (4, .ref o)] := hl
  have SC : CallFix p m c cL_before 6 s ([.ref h, .int ee, .int a, .int b, .ref o] : List Value).toArray wsL_before RL := ⟨hx, hb, hml, hown, hts⟩
  refine lv_aload hx hb dL_before_0 (lv_at hl 4 rfl) ?_
  refine lv_iconst (v := 0) hx hb dL_before_2 (by decide) ?_
  refine lv_aload_n hx hb dL_before_3 rfl (lv_at hl 0 rfl) ?_
  refine lv_iload_n hx hb dL_before_4 rfl (lv_at hl 1 rfl) ?_
  refine lv_iload_n hx hb dL_before_5 rfl (lv_at hl 2 rfl) ?_
  refine lv_iload_n hx hb dL_before_6 rfl (lv_at hl 3 rfl) ?_
  refine r_c (rm := ({ frames := 8, cells := 1, slots := 6, locals := 160 } : Room)) (As := [.int ee, .int a, .int b]) (rest := [.int 0, .ref o]) (m_before l D ad cI cJ ((o, .inl (cJ, 1, .inr (.inl g))) :: tt) h r1 f1 s1 R F S cn ee a b hl9 hR) SC (cwV 3 hts gL_before_X0_before rfl rfl rfl (by decide +kernel) ⟨Nat.le_of_ble_eq_true rfl, Nat.le_of_ble_eq_true rfl⟩) hP hK hD hS hA hX 0 rfl rfl rfl hl.1 rfl (Nat.le_of_ble_eq_true rfl) dL_before_7 ⟨Nat.le_of_ble_eq_true rfl, Nat.le_of_ble_eq_true rfl⟩ (fun E ce q9 H locs _ hE hP hD hS hce hcv hcl => ?_) (fun H locs hk0 _ _ _ => absurd hk0 hk)
  rcases rk_kF_r ee a b cn with h9 | h9 | h9 | h9
  · exact absurd h9 hk
  · have hE : E = "java/lang/IllegalArgumentException" := by rw [hE, h9]; rfl
    subst hE
    refine vx_catch (own := RL) (name := "java/lang/IllegalArgumentException") (E := "java/lang/IllegalArgumentException") hown [] ⟨0, 12, 15, 13⟩ [⟨0, 12, 19, 15⟩, ⟨0, 12, 23, 17⟩] (by rw [hTab]; rfl) (fun z hz => nomatch hz) (by decide) (by decide) (hts (.classLink RL 13 "java/lang/IllegalArgumentException") (by decide +kernel)) (va_Nw.use rfl (hX.2.1 _ (List.mem_of_getElem? (i := 0) rfl))) hce hcv hcl ?_
    refine lv_astore (lv' := [(5, .ref q9), (0, .ref h), (1, .int ee), (2, .int a), (3, .int b), (4, .ref o)]) hx hb dL_before_15 hl (by decide) rfl (fun ls hl => ?_)
    refine lv_iconst (v := 1) hx hb dL_before_17 (by decide) ?_
    refine q_top (nI (rk_kF ee a b cn)) (by rw [h9]; rfl) ?_
    exact e_i hx hb hr hlocks hP hK hD hS dL_before_18 (Nat.le_of_ble_eq_true rfl) (Nat.le_of_ble_eq_true rfl)
  · have hE : E = "java/util/NoSuchElementException" := by rw [hE, h9]; rfl
    subst hE
    refine vx_catch (own := RL) (name := "java/util/NoSuchElementException") (E := "java/util/NoSuchElementException") hown [⟨0, 12, 15, 13⟩] ⟨0, 12, 19, 15⟩ [⟨0, 12, 23, 17⟩] (by rw [hTab]; rfl) (by
        intro z hz
        rcases List.mem_cons.mp hz with rfl | hz
        · exact Or.inr ⟨by decide, "java/lang/IllegalArgumentException", hts (.classLink RL 13 "java/lang/IllegalArgumentException") (by decide +kernel), hX.2.2.2.1.1⟩
        cases hz) (by decide) (by decide) (hts (.classLink RL 15 "java/util/NoSuchElementException") (by decide +kernel)) (va_Nw.use rfl (hX.2.1 _ (List.mem_of_getElem? (i := 1) rfl))) hce hcv hcl ?_
    refine lv_astore (lv' := [(5, .ref q9), (0, .ref h), (1, .int ee), (2, .int a), (3, .int b), (4, .ref o)]) hx hb dL_before_19 hl (by decide) rfl (fun ls hl => ?_)
    refine lv_iconst (v := 2) hx hb dL_before_21 (by decide) ?_
    refine q_top (nI (rk_kF ee a b cn)) (by rw [h9]; rfl) ?_
    exact e_i hx hb hr hlocks hP hK hD hS dL_before_22 (Nat.le_of_ble_eq_true rfl) (Nat.le_of_ble_eq_true rfl)
  · have hE : E = "java/lang/IllegalStateException" := by rw [hE, h9]; rfl
    subst hE
    refine vx_catch (own := RL) (name := "java/lang/IllegalStateException") (E := "java/lang/IllegalStateException") hown [⟨0, 12, 15, 13⟩, ⟨0, 12, 19, 15⟩] ⟨0, 12, 23, 17⟩ [] (by rw [hTab]; rfl) (by
        intro z hz
        rcases List.mem_cons.mp hz with rfl | hz
        · exact Or.inr ⟨by decide, "java/lang/IllegalArgumentException", hts (.classLink RL 13 "java/lang/IllegalArgumentException") (by decide +kernel), hX.2.2.2.1.2.1⟩
        rcases List.mem_cons.mp hz with rfl | hz
        · exact Or.inr ⟨by decide, "java/util/NoSuchElementException", hts (.classLink RL 15 "java/util/NoSuchElementException") (by decide +kernel), hX.2.2.2.1.2.2⟩
        cases hz) (by decide) (by decide) (hts (.classLink RL 17 "java/lang/IllegalStateException") (by decide +kernel)) (va_Nw.use rfl (hX.2.1 _ (List.mem_of_getElem? (i := 2) rfl))) hce hcv hcl ?_
    refine lv_astore (lv' := [(5, .ref q9), (0, .ref h), (1, .int ee), (2, .int a), (3, .int b), (4, .ref o)]) hx hb dL_before_23 hl (by decide) rfl (fun ls hl => ?_)
    refine lv_iconst (v := 3) hx hb dL_before_25 (by decide) ?_
    refine q_top (nI (rk_kF ee a b cn)) (by rw [h9]; rfl) ?_
    exact e_i hx hb hr hlocks hP hK hD hS dL_before_26 (Nat.le_of_ble_eq_true rfl) (Nat.le_of_ble_eq_true rfl)
set_option maxHeartbeats 4000000 in
set_option maxRecDepth 100000 in
theorem w_weigh_ok (l : Launch) (D : va_G) (ad : Nat → Nat) (cI cJ : ClassId) (tt : va_W) (h r1 f1 s1 o : Nat) (R F S : Nat → Int32) (cn : Nat) (g : Nat → Int64) (ee a b : Int32) (hl9 : l.stackTraces = false) (hR : rk_ok R cn) (hk : rk_kW ee a b cn = 0) : uI l yL_weigh wsL_weigh ({ frames := 9, cells := 1, slots := 6, locals := 200 } : Room) D ad [(cI, .int), (cJ, .long)] [.ref h, .int ee, .int a, .int b, .ref o] (wX h r1 f1 s1 cI R F S cn ((o, .inl (cJ, 1, .inr (.inl g))) :: tt)) (wX h r1 f1 s1 cI R (upd F ee.toNatClampNeg a) (upd S ee.toNatClampNeg b) cn ((o, .inl (cJ, 1, .inr (.inl (vp_updL g 0 ((F ee.toNatClampNeg).toInt64))))) :: tt)) (0) 1 6 := by
  unfold uI
  refine st_W (Qc := qI D [(cI, .int), (cJ, .long)] (wX h r1 f1 s1 cI R (upd F ee.toNatClampNeg a) (upd S ee.toNatClampNeg b) cn ((o, .inl (cJ, 1, .inr (.inl (vp_updL g 0 ((F ee.toNatClampNeg).toInt64))))) :: tt)) 0) (hh := [(0, 12, 15, 13), (0, 12, 19, 15)]) (mc := 1) (ms := 6) (cc := cL_weigh) (maxL := 6) (ret := (some .int)) [.ref h, .int ee, .int a, .int b, .ref o] (by decide) rfl (Nat.le_of_ble_eq_true rfl) (fun p en s m below meth c A ls hTab hx hb hr hlocks hml hts hown hA hS hP hK hD hX hl => ?_)
  have hown : s.vm.findClass RL = some m.cls := hown
  have hl : lv_has ls 6 [(0, .ref h), (1, .int ee), (2, .int a), (3, .int b), (4, .ref o)] := hl
  have SC : CallFix p m c cL_weigh 6 s ([.ref h, .int ee, .int a, .int b, .ref o] : List Value).toArray wsL_weigh RL := ⟨hx, hb, hml, hown, hts⟩
  refine lv_aload hx hb dL_weigh_0 (lv_at hl 4 rfl) ?_
  refine lv_iconst (v := 0) hx hb dL_weigh_2 (by decide) ?_
  refine lv_aload_n hx hb dL_weigh_3 rfl (lv_at hl 0 rfl) ?_
  refine lv_iload_n hx hb dL_weigh_4 rfl (lv_at hl 1 rfl) ?_
  refine lv_iload_n hx hb dL_weigh_5 rfl (lv_at hl 2 rfl) ?_
  refine lv_iload_n hx hb dL_weigh_6 rfl (lv_at hl 3 rfl) ?_
  refine r_c (rm := ({ frames := 8, cells := 1, slots := 6, locals := 160 } : Room)) (As := [.int ee, .int a, .int b]) (rest := [.int 0, .ref o]) (m_weigh l D ad cI cJ ((o, .inl (cJ, 1, .inr (.inl g))) :: tt) h r1 f1 s1 R F S cn ee a b hl9 hR) SC (cwV 3 hts gL_weigh_X0_weigh rfl rfl rfl (by decide +kernel) ⟨Nat.le_of_ble_eq_true rfl, Nat.le_of_ble_eq_true rfl⟩) hP hK hD hS hA hX 0 rfl rfl rfl hl.1 rfl (Nat.le_of_ble_eq_true rfl) dL_weigh_7 ⟨Nat.le_of_ble_eq_true rfl, Nat.le_of_ble_eq_true rfl⟩ (fun E ce q9 H locs hk0 _ _ _ _ _ _ _ => absurd hk hk0) (fun H locs _ hP hD hS => ?_)
  have hP : va_P D vwD (wX h r1 f1 s1 cI R (upd F ee.toNatClampNeg a) (upd S ee.toNatClampNeg b) cn ((o, .inl (cJ, 1, .inr (.inl g))) :: tt)) H := hP
  have hD : va_D A (wX h r1 f1 s1 cI R (upd F ee.toNatClampNeg a) (upd S ee.toNatClampNeg b) cn ((o, .inl (cJ, 1, .inr (.inl g))) :: tt)) := hD
  refine lv_i2l hx hb dL_weigh_10 rfl ?_
  refine va_last hx hb hK hP hD hS 4 1 rfl rfl (vp_in_nI (n := 0) (N := 1) (by decide) (by decide)) dL_weigh_11 (fun H locs hP hD hS => ?_)
  rw [sb_cl0] at hP hD
  have hP : va_P D vwD (wX h r1 f1 s1 cI R (upd F ee.toNatClampNeg a) (upd S ee.toNatClampNeg b) cn ((o, .inl (cJ, 1, .inr (.inl (vp_updL g 0 (((F ee.toNatClampNeg)).toInt64))))) :: tt)) H := hP
  have hD : va_D A (wX h r1 f1 s1 cI R (upd F ee.toNatClampNeg a) (upd S ee.toNatClampNeg b) cn ((o, .inl (cJ, 1, .inr (.inl (vp_updL g 0 (((F ee.toNatClampNeg)).toInt64))))) :: tt)) := hD
  refine lv_goto (tgt := 23) hx hb dL_weigh_12 (by decide) ?_
  refine lv_iconst (v := 0) hx hb dL_weigh_23 (by decide) ?_
  exact e_i hx hb hr hlocks hP hK hD hS dL_weigh_24 (Nat.le_of_ble_eq_true rfl) (Nat.le_of_ble_eq_true rfl)
set_option maxHeartbeats 4000000 in
set_option maxRecDepth 100000 in
theorem w_weigh_bad (l : Launch) (D : va_G) (ad : Nat → Nat) (cI cJ : ClassId) (tt : va_W) (h r1 f1 s1 o : Nat) (R F S : Nat → Int32) (cn : Nat) (g : Nat → Int64) (ee a b : Int32) (hl9 : l.stackTraces = false) (hR : rk_ok R cn) (hk : rk_kW ee a b cn ≠ 0) : uI l yL_weigh wsL_weigh ({ frames := 9, cells := 1, slots := 6, locals := 200 } : Room) D ad [(cI, .int), (cJ, .long)] [.ref h, .int ee, .int a, .int b, .ref o] (wX h r1 f1 s1 cI R F S cn ((o, .inl (cJ, 1, .inr (.inl g))) :: tt)) (wX h r1 f1 s1 cI R F S cn ((o, .inl (cJ, 1, .inr (.inl g))) :: tt)) (nI (rk_kW ee a b cn)) 1 6 := by
  unfold uI
  refine st_W (Qc := qI D [(cI, .int), (cJ, .long)] (wX h r1 f1 s1 cI R F S cn ((o, .inl (cJ, 1, .inr (.inl g))) :: tt)) (nI (rk_kW ee a b cn))) (hh := [(0, 12, 15, 13), (0, 12, 19, 15)]) (mc := 1) (ms := 6) (cc := cL_weigh) (maxL := 6) (ret := (some .int)) [.ref h, .int ee, .int a, .int b, .ref o] (by decide) rfl (Nat.le_of_ble_eq_true rfl) (fun p en s m below meth c A ls hTab hx hb hr hlocks hml hts hown hA hS hP hK hD hX hl => ?_)
  have hown : s.vm.findClass RL = some m.cls := hown
  have hl : lv_has ls 6 [(0, .ref h), (1, .int ee), (2, .int a), (3, .int b), (4, .ref o)] := hl
  have SC : CallFix p m c cL_weigh 6 s ([.ref h, .int ee, .int a, .int b, .ref o] : List Value).toArray wsL_weigh RL := ⟨hx, hb, hml, hown, hts⟩
  refine lv_aload hx hb dL_weigh_0 (lv_at hl 4 rfl) ?_
  refine lv_iconst (v := 0) hx hb dL_weigh_2 (by decide) ?_
  refine lv_aload_n hx hb dL_weigh_3 rfl (lv_at hl 0 rfl) ?_
  refine lv_iload_n hx hb dL_weigh_4 rfl (lv_at hl 1 rfl) ?_
  refine lv_iload_n hx hb dL_weigh_5 rfl (lv_at hl 2 rfl) ?_
  refine lv_iload_n hx hb dL_weigh_6 rfl (lv_at hl 3 rfl) ?_
  refine r_c (rm := ({ frames := 8, cells := 1, slots := 6, locals := 160 } : Room)) (As := [.int ee, .int a, .int b]) (rest := [.int 0, .ref o]) (m_weigh l D ad cI cJ ((o, .inl (cJ, 1, .inr (.inl g))) :: tt) h r1 f1 s1 R F S cn ee a b hl9 hR) SC (cwV 3 hts gL_weigh_X0_weigh rfl rfl rfl (by decide +kernel) ⟨Nat.le_of_ble_eq_true rfl, Nat.le_of_ble_eq_true rfl⟩) hP hK hD hS hA hX 0 rfl rfl rfl hl.1 rfl (Nat.le_of_ble_eq_true rfl) dL_weigh_7 ⟨Nat.le_of_ble_eq_true rfl, Nat.le_of_ble_eq_true rfl⟩ (fun E ce q9 H locs _ hE hP hD hS hce hcv hcl => ?_) (fun H locs hk0 _ _ _ => absurd hk0 hk)
  rcases rk_kW_r ee a b cn with h9 | h9 | h9
  · exact absurd h9 hk
  · have hE : E = "java/lang/IllegalArgumentException" := by rw [hE, h9]; rfl
    subst hE
    refine vx_catch (own := RL) (name := "java/lang/IllegalArgumentException") (E := "java/lang/IllegalArgumentException") hown [] ⟨0, 12, 15, 13⟩ [⟨0, 12, 19, 15⟩] (by rw [hTab]; rfl) (fun z hz => nomatch hz) (by decide) (by decide) (hts (.classLink RL 13 "java/lang/IllegalArgumentException") (by decide +kernel)) (va_Nw.use rfl (hX.2.1 _ (List.mem_of_getElem? (i := 0) rfl))) hce hcv hcl ?_
    refine lv_astore (lv' := [(5, .ref q9), (0, .ref h), (1, .int ee), (2, .int a), (3, .int b), (4, .ref o)]) hx hb dL_weigh_15 hl (by decide) rfl (fun ls hl => ?_)
    refine lv_iconst (v := 1) hx hb dL_weigh_17 (by decide) ?_
    refine q_top (nI (rk_kW ee a b cn)) (by rw [h9]; rfl) ?_
    exact e_i hx hb hr hlocks hP hK hD hS dL_weigh_18 (Nat.le_of_ble_eq_true rfl) (Nat.le_of_ble_eq_true rfl)
  · have hE : E = "java/util/NoSuchElementException" := by rw [hE, h9]; rfl
    subst hE
    refine vx_catch (own := RL) (name := "java/util/NoSuchElementException") (E := "java/util/NoSuchElementException") hown [⟨0, 12, 15, 13⟩] ⟨0, 12, 19, 15⟩ [] (by rw [hTab]; rfl) (by
        intro z hz
        rcases List.mem_cons.mp hz with rfl | hz
        · exact Or.inr ⟨by decide, "java/lang/IllegalArgumentException", hts (.classLink RL 13 "java/lang/IllegalArgumentException") (by decide +kernel), hX.2.2.2.1.1⟩
        cases hz) (by decide) (by decide) (hts (.classLink RL 15 "java/util/NoSuchElementException") (by decide +kernel)) (va_Nw.use rfl (hX.2.1 _ (List.mem_of_getElem? (i := 1) rfl))) hce hcv hcl ?_
    refine lv_astore (lv' := [(5, .ref q9), (0, .ref h), (1, .int ee), (2, .int a), (3, .int b), (4, .ref o)]) hx hb dL_weigh_19 hl (by decide) rfl (fun ls hl => ?_)
    refine lv_iconst (v := 2) hx hb dL_weigh_21 (by decide) ?_
    refine q_top (nI (rk_kW ee a b cn)) (by rw [h9]; rfl) ?_
    exact e_i hx hb hr hlocks hP hK hD hS dL_weigh_22 (Nat.le_of_ble_eq_true rfl) (Nat.le_of_ble_eq_true rfl)
set_option maxHeartbeats 4000000 in
set_option maxRecDepth 100000 in
theorem w_find_ok (l : Launch) (D : va_G) (ad : Nat → Nat) (cI cJ : ClassId) (tt : va_W) (h r1 f1 s1 o : Nat) (R F S : Nat → Int32) (cn : Nat) (g : Nat → Int64) (q : Int32) (hl9 : l.stackTraces = false) (hR : rk_ok R cn) (hk : rk_kD R F q cn = 0) : uI l yL_find wsL_find ({ frames := 9, cells := 1, slots := 6, locals := 200 } : Room) D ad [(cI, .int), (cJ, .long)] [.ref h, .int q, .ref o] (wX h r1 f1 s1 cI R F S cn ((o, .inl (cJ, 1, .inr (.inl g))) :: tt)) (wX h r1 f1 s1 cI R F S cn ((o, .inl (cJ, 1, .inr (.inl (vp_updL g 0 ((R (rk_fd R F q cn)).toInt64))))) :: tt)) (0) 1 6 := by
  unfold uI
  refine st_W (Qc := qI D [(cI, .int), (cJ, .long)] (wX h r1 f1 s1 cI R F S cn ((o, .inl (cJ, 1, .inr (.inl (vp_updL g 0 ((R (rk_fd R F q cn)).toInt64))))) :: tt)) 0) (hh := [(0, 9, 12, 15)]) (mc := 1) (ms := 6) (cc := cL_find) (maxL := 4) (ret := (some .int)) [.ref h, .int q, .ref o] (by decide) rfl (Nat.le_of_ble_eq_true rfl) (fun p en s m below meth c A ls hTab hx hb hr hlocks hml hts hown hA hS hP hK hD hX hl => ?_)
  have hown : s.vm.findClass RL = some m.cls := hown
  have hl : lv_has ls 4 [(0, .ref h), (1, .int q), (2, .ref o)] := hl
  have SC : CallFix p m c cL_find 4 s ([.ref h, .int q, .ref o] : List Value).toArray wsL_find RL := ⟨hx, hb, hml, hown, hts⟩
  refine lv_aload_n hx hb dL_find_0 rfl (lv_at hl 2 rfl) ?_
  refine lv_iconst (v := 0) hx hb dL_find_1 (by decide) ?_
  refine lv_aload_n hx hb dL_find_2 rfl (lv_at hl 0 rfl) ?_
  refine lv_iload_n hx hb dL_find_3 rfl (lv_at hl 1 rfl) ?_
  refine r_c (rm := ({ frames := 8, cells := 1, slots := 6, locals := 160 } : Room)) (As := [.int q]) (rest := [.int 0, .ref o]) (m_find l D ad cI cJ ((o, .inl (cJ, 1, .inr (.inl g))) :: tt) h r1 f1 s1 R F S cn q hl9 hR) SC (cwV 1 hts gL_find_X0_find rfl rfl rfl (by decide +kernel) ⟨Nat.le_of_ble_eq_true rfl, Nat.le_of_ble_eq_true rfl⟩) hP hK hD hS hA hX 0 rfl rfl rfl hl.1 rfl (Nat.le_of_ble_eq_true rfl) dL_find_4 ⟨Nat.le_of_ble_eq_true rfl, Nat.le_of_ble_eq_true rfl⟩ (fun E ce q9 H locs hk0 _ _ _ _ _ _ _ => absurd hk hk0) (fun H locs _ hP hD hS => ?_)
  have hP : va_P D vwD (wX h r1 f1 s1 cI R F S cn ((o, .inl (cJ, 1, .inr (.inl g))) :: tt)) H := hP
  have hD : va_D A (wX h r1 f1 s1 cI R F S cn ((o, .inl (cJ, 1, .inr (.inl g))) :: tt)) := hD
  refine lv_i2l hx hb dL_find_7 rfl ?_
  refine va_last hx hb hK hP hD hS 4 1 rfl rfl (vp_in_nI (n := 0) (N := 1) (by decide) (by decide)) dL_find_8 (fun H locs hP hD hS => ?_)
  rw [sb_cl0] at hP hD
  have hP : va_P D vwD (wX h r1 f1 s1 cI R F S cn ((o, .inl (cJ, 1, .inr (.inl (vp_updL g 0 (((R (rk_fd R F q cn))).toInt64))))) :: tt)) H := hP
  have hD : va_D A (wX h r1 f1 s1 cI R F S cn ((o, .inl (cJ, 1, .inr (.inl (vp_updL g 0 (((R (rk_fd R F q cn))).toInt64))))) :: tt)) := hD
  refine lv_goto (tgt := 15) hx hb dL_find_9 (by decide) ?_
  refine lv_iconst (v := 0) hx hb dL_find_15 (by decide) ?_
  exact e_i hx hb hr hlocks hP hK hD hS dL_find_16 (Nat.le_of_ble_eq_true rfl) (Nat.le_of_ble_eq_true rfl)
set_option maxHeartbeats 4000000 in
set_option maxRecDepth 100000 in
theorem w_find_bad (l : Launch) (D : va_G) (ad : Nat → Nat) (cI cJ : ClassId) (tt : va_W) (h r1 f1 s1 o : Nat) (R F S : Nat → Int32) (cn : Nat) (g : Nat → Int64) (q : Int32) (hl9 : l.stackTraces = false) (hR : rk_ok R cn) (hk : rk_kD R F q cn ≠ 0) : uI l yL_find wsL_find ({ frames := 9, cells := 1, slots := 6, locals := 200 } : Room) D ad [(cI, .int), (cJ, .long)] [.ref h, .int q, .ref o] (wX h r1 f1 s1 cI R F S cn ((o, .inl (cJ, 1, .inr (.inl g))) :: tt)) (wX h r1 f1 s1 cI R F S cn ((o, .inl (cJ, 1, .inr (.inl g))) :: tt)) (1) 1 6 := by
  unfold uI
  refine st_W (Qc := qI D [(cI, .int), (cJ, .long)] (wX h r1 f1 s1 cI R F S cn ((o, .inl (cJ, 1, .inr (.inl g))) :: tt)) (1)) (hh := [(0, 9, 12, 15)]) (mc := 1) (ms := 6) (cc := cL_find) (maxL := 4) (ret := (some .int)) [.ref h, .int q, .ref o] (by decide) rfl (Nat.le_of_ble_eq_true rfl) (fun p en s m below meth c A ls hTab hx hb hr hlocks hml hts hown hA hS hP hK hD hX hl => ?_)
  have hown : s.vm.findClass RL = some m.cls := hown
  have hl : lv_has ls 4 [(0, .ref h), (1, .int q), (2, .ref o)] := hl
  have SC : CallFix p m c cL_find 4 s ([.ref h, .int q, .ref o] : List Value).toArray wsL_find RL := ⟨hx, hb, hml, hown, hts⟩
  refine lv_aload_n hx hb dL_find_0 rfl (lv_at hl 2 rfl) ?_
  refine lv_iconst (v := 0) hx hb dL_find_1 (by decide) ?_
  refine lv_aload_n hx hb dL_find_2 rfl (lv_at hl 0 rfl) ?_
  refine lv_iload_n hx hb dL_find_3 rfl (lv_at hl 1 rfl) ?_
  refine r_c (rm := ({ frames := 8, cells := 1, slots := 6, locals := 160 } : Room)) (As := [.int q]) (rest := [.int 0, .ref o]) (m_find l D ad cI cJ ((o, .inl (cJ, 1, .inr (.inl g))) :: tt) h r1 f1 s1 R F S cn q hl9 hR) SC (cwV 1 hts gL_find_X0_find rfl rfl rfl (by decide +kernel) ⟨Nat.le_of_ble_eq_true rfl, Nat.le_of_ble_eq_true rfl⟩) hP hK hD hS hA hX 0 rfl rfl rfl hl.1 rfl (Nat.le_of_ble_eq_true rfl) dL_find_4 ⟨Nat.le_of_ble_eq_true rfl, Nat.le_of_ble_eq_true rfl⟩ (fun E ce q9 H locs _ hE hP hD hS hce hcv hcl => ?_) (fun H locs hk0 _ _ _ => absurd hk0 hk)
  rcases rk_kD_r R F q cn with h9 | h9
  · exact absurd h9 hk
  · have hE : E = "java/util/NoSuchElementException" := by rw [hE, h9]; rfl
    subst hE
    refine vx_catch (own := RL) (name := "java/util/NoSuchElementException") (E := "java/util/NoSuchElementException") hown [] ⟨0, 9, 12, 15⟩ [] (by rw [hTab]; rfl) (fun z hz => nomatch hz) (by decide) (by decide) (hts (.classLink RL 15 "java/util/NoSuchElementException") (by decide +kernel)) (va_Nw.use rfl (hX.2.1 _ (List.mem_of_getElem? (i := 1) rfl))) hce hcv hcl ?_
    refine lv_astore_n (lv' := [(3, .ref q9), (0, .ref h), (1, .int q), (2, .ref o)]) hx hb dL_find_12 rfl hl (by decide) rfl (fun ls hl => ?_)
    refine lv_iconst (v := 1) hx hb dL_find_13 (by decide) ?_
    exact e_i hx hb hr hlocks hP hK hD hS dL_find_14 (Nat.le_of_ble_eq_true rfl) (Nat.le_of_ble_eq_true rfl)
set_option maxHeartbeats 4000000 in
set_option maxRecDepth 100000 in
theorem w_sum_ok (l : Launch) (D : va_G) (ad : Nat → Nat) (cI cJ : ClassId) (tt : va_W) (h r1 f1 s1 o : Nat) (R F S : Nat → Int32) (cn : Nat) (g : Nat → Int64) (ee z : Int32) (hl9 : l.stackTraces = false) (hR : rk_ok R cn) (hk : rk_kS ee z cn = 0) : uI l yL_sum wsL_sum ({ frames := 9, cells := 1, slots := 6, locals := 200 } : Room) D ad [(cI, .int), (cJ, .long)] [.ref h, .int ee, .int z, .ref o] (wX h r1 f1 s1 cI R F S cn ((o, .inl (cJ, 1, .inr (.inl g))) :: tt)) (wX h r1 f1 s1 cI R F S cn ((o, .inl (cJ, 1, .inr (.inl (vp_updL g 0 ((rk_sm R (if z = 0 then F else S) (if ee = -1 then cn else rk_pl R ee cn)).toInt64))))) :: tt)) (0) 1 6 := by
  unfold uI
  refine st_W (Qc := qI D [(cI, .int), (cJ, .long)] (wX h r1 f1 s1 cI R F S cn ((o, .inl (cJ, 1, .inr (.inl (vp_updL g 0 ((rk_sm R (if z = 0 then F else S) (if ee = -1 then cn else rk_pl R ee cn)).toInt64))))) :: tt)) 0) (hh := [(0, 10, 13, 13), (0, 10, 17, 15)]) (mc := 1) (ms := 6) (cc := cL_sum) (maxL := 5) (ret := (some .int)) [.ref h, .int ee, .int z, .ref o] (by decide) rfl (Nat.le_of_ble_eq_true rfl) (fun p en s m below meth c A ls hTab hx hb hr hlocks hml hts hown hA hS hP hK hD hX hl => ?_)
  have hown : s.vm.findClass RL = some m.cls := hown
  have hl : lv_has ls 5 [(0, .ref h), (1, .int ee), (2, .int z), (3, .ref o)] := hl
  have SC : CallFix p m c cL_sum 5 s ([.ref h, .int ee, .int z, .ref o] : List Value).toArray wsL_sum RL := ⟨hx, hb, hml, hown, hts⟩
  refine lv_aload_n hx hb dL_sum_0 rfl (lv_at hl 3 rfl) ?_
  refine lv_iconst (v := 0) hx hb dL_sum_1 (by decide) ?_
  refine lv_aload_n hx hb dL_sum_2 rfl (lv_at hl 0 rfl) ?_
  refine lv_iload_n hx hb dL_sum_3 rfl (lv_at hl 1 rfl) ?_
  refine lv_iload_n hx hb dL_sum_4 rfl (lv_at hl 2 rfl) ?_
  refine r_c (rm := ({ frames := 8, cells := 1, slots := 6, locals := 160 } : Room)) (As := [.int ee, .int z]) (rest := [.int 0, .ref o]) (m_sum l D ad cI cJ ((o, .inl (cJ, 1, .inr (.inl g))) :: tt) h r1 f1 s1 R F S cn ee z hl9 hR) SC (cwV 2 hts gL_sum_X0_sum rfl rfl rfl (by decide +kernel) ⟨Nat.le_of_ble_eq_true rfl, Nat.le_of_ble_eq_true rfl⟩) hP hK hD hS hA hX 0 rfl rfl rfl hl.1 rfl (Nat.le_of_ble_eq_true rfl) dL_sum_5 ⟨Nat.le_of_ble_eq_true rfl, Nat.le_of_ble_eq_true rfl⟩ (fun E ce q9 H locs hk0 _ _ _ _ _ _ _ => absurd hk hk0) (fun H locs _ hP hD hS => ?_)
  have hP : va_P D vwD (wX h r1 f1 s1 cI R F S cn ((o, .inl (cJ, 1, .inr (.inl g))) :: tt)) H := hP
  have hD : va_D A (wX h r1 f1 s1 cI R F S cn ((o, .inl (cJ, 1, .inr (.inl g))) :: tt)) := hD
  refine lv_i2l hx hb dL_sum_8 rfl ?_
  refine va_last hx hb hK hP hD hS 4 1 rfl rfl (vp_in_nI (n := 0) (N := 1) (by decide) (by decide)) dL_sum_9 (fun H locs hP hD hS => ?_)
  rw [sb_cl0] at hP hD
  have hP : va_P D vwD (wX h r1 f1 s1 cI R F S cn ((o, .inl (cJ, 1, .inr (.inl (vp_updL g 0 (((rk_sm R (if z = 0 then F else S) (if ee = -1 then cn else rk_pl R ee cn))).toInt64))))) :: tt)) H := hP
  have hD : va_D A (wX h r1 f1 s1 cI R F S cn ((o, .inl (cJ, 1, .inr (.inl (vp_updL g 0 (((rk_sm R (if z = 0 then F else S) (if ee = -1 then cn else rk_pl R ee cn))).toInt64))))) :: tt)) := hD
  refine lv_goto (tgt := 21) hx hb dL_sum_10 (by decide) ?_
  refine lv_iconst (v := 0) hx hb dL_sum_21 (by decide) ?_
  exact e_i hx hb hr hlocks hP hK hD hS dL_sum_22 (Nat.le_of_ble_eq_true rfl) (Nat.le_of_ble_eq_true rfl)
set_option maxHeartbeats 4000000 in
set_option maxRecDepth 100000 in
theorem w_sum_bad (l : Launch) (D : va_G) (ad : Nat → Nat) (cI cJ : ClassId) (tt : va_W) (h r1 f1 s1 o : Nat) (R F S : Nat → Int32) (cn : Nat) (g : Nat → Int64) (ee z : Int32) (hl9 : l.stackTraces = false) (hR : rk_ok R cn) (hk : rk_kS ee z cn ≠ 0) : uI l yL_sum wsL_sum ({ frames := 9, cells := 1, slots := 6, locals := 200 } : Room) D ad [(cI, .int), (cJ, .long)] [.ref h, .int ee, .int z, .ref o] (wX h r1 f1 s1 cI R F S cn ((o, .inl (cJ, 1, .inr (.inl g))) :: tt)) (wX h r1 f1 s1 cI R F S cn ((o, .inl (cJ, 1, .inr (.inl g))) :: tt)) (nI (rk_kS ee z cn)) 1 6 := by
  unfold uI
  refine st_W (Qc := qI D [(cI, .int), (cJ, .long)] (wX h r1 f1 s1 cI R F S cn ((o, .inl (cJ, 1, .inr (.inl g))) :: tt)) (nI (rk_kS ee z cn))) (hh := [(0, 10, 13, 13), (0, 10, 17, 15)]) (mc := 1) (ms := 6) (cc := cL_sum) (maxL := 5) (ret := (some .int)) [.ref h, .int ee, .int z, .ref o] (by decide) rfl (Nat.le_of_ble_eq_true rfl) (fun p en s m below meth c A ls hTab hx hb hr hlocks hml hts hown hA hS hP hK hD hX hl => ?_)
  have hown : s.vm.findClass RL = some m.cls := hown
  have hl : lv_has ls 5 [(0, .ref h), (1, .int ee), (2, .int z), (3, .ref o)] := hl
  have SC : CallFix p m c cL_sum 5 s ([.ref h, .int ee, .int z, .ref o] : List Value).toArray wsL_sum RL := ⟨hx, hb, hml, hown, hts⟩
  refine lv_aload_n hx hb dL_sum_0 rfl (lv_at hl 3 rfl) ?_
  refine lv_iconst (v := 0) hx hb dL_sum_1 (by decide) ?_
  refine lv_aload_n hx hb dL_sum_2 rfl (lv_at hl 0 rfl) ?_
  refine lv_iload_n hx hb dL_sum_3 rfl (lv_at hl 1 rfl) ?_
  refine lv_iload_n hx hb dL_sum_4 rfl (lv_at hl 2 rfl) ?_
  refine r_c (rm := ({ frames := 8, cells := 1, slots := 6, locals := 160 } : Room)) (As := [.int ee, .int z]) (rest := [.int 0, .ref o]) (m_sum l D ad cI cJ ((o, .inl (cJ, 1, .inr (.inl g))) :: tt) h r1 f1 s1 R F S cn ee z hl9 hR) SC (cwV 2 hts gL_sum_X0_sum rfl rfl rfl (by decide +kernel) ⟨Nat.le_of_ble_eq_true rfl, Nat.le_of_ble_eq_true rfl⟩) hP hK hD hS hA hX 0 rfl rfl rfl hl.1 rfl (Nat.le_of_ble_eq_true rfl) dL_sum_5 ⟨Nat.le_of_ble_eq_true rfl, Nat.le_of_ble_eq_true rfl⟩ (fun E ce q9 H locs _ hE hP hD hS hce hcv hcl => ?_) (fun H locs hk0 _ _ _ => absurd hk0 hk)
  rcases rk_kS_r ee z cn with h9 | h9 | h9
  · exact absurd h9 hk
  · have hE : E = "java/lang/IllegalArgumentException" := by rw [hE, h9]; rfl
    subst hE
    refine vx_catch (own := RL) (name := "java/lang/IllegalArgumentException") (E := "java/lang/IllegalArgumentException") hown [] ⟨0, 10, 13, 13⟩ [⟨0, 10, 17, 15⟩] (by rw [hTab]; rfl) (fun z hz => nomatch hz) (by decide) (by decide) (hts (.classLink RL 13 "java/lang/IllegalArgumentException") (by decide +kernel)) (va_Nw.use rfl (hX.2.1 _ (List.mem_of_getElem? (i := 0) rfl))) hce hcv hcl ?_
    refine lv_astore (lv' := [(4, .ref q9), (0, .ref h), (1, .int ee), (2, .int z), (3, .ref o)]) hx hb dL_sum_13 hl (by decide) rfl (fun ls hl => ?_)
    refine lv_iconst (v := 1) hx hb dL_sum_15 (by decide) ?_
    refine q_top (nI (rk_kS ee z cn)) (by rw [h9]; rfl) ?_
    exact e_i hx hb hr hlocks hP hK hD hS dL_sum_16 (Nat.le_of_ble_eq_true rfl) (Nat.le_of_ble_eq_true rfl)
  · have hE : E = "java/util/NoSuchElementException" := by rw [hE, h9]; rfl
    subst hE
    refine vx_catch (own := RL) (name := "java/util/NoSuchElementException") (E := "java/util/NoSuchElementException") hown [⟨0, 10, 13, 13⟩] ⟨0, 10, 17, 15⟩ [] (by rw [hTab]; rfl) (by
        intro z hz
        rcases List.mem_cons.mp hz with rfl | hz
        · exact Or.inr ⟨by decide, "java/lang/IllegalArgumentException", hts (.classLink RL 13 "java/lang/IllegalArgumentException") (by decide +kernel), hX.2.2.2.1.1⟩
        cases hz) (by decide) (by decide) (hts (.classLink RL 15 "java/util/NoSuchElementException") (by decide +kernel)) (va_Nw.use rfl (hX.2.1 _ (List.mem_of_getElem? (i := 1) rfl))) hce hcv hcl ?_
    refine lv_astore (lv' := [(4, .ref q9), (0, .ref h), (1, .int ee), (2, .int z), (3, .ref o)]) hx hb dL_sum_17 hl (by decide) rfl (fun ls hl => ?_)
    refine lv_iconst (v := 2) hx hb dL_sum_19 (by decide) ?_
    refine q_top (nI (rk_kS ee z cn)) (by rw [h9]; rfl) ?_
    exact e_i hx hb hr hlocks hP hK hD hS dL_sum_20 (Nat.le_of_ble_eq_true rfl) (Nat.le_of_ble_eq_true rfl)
set_option maxHeartbeats 4000000 in
set_option maxRecDepth 100000 in
theorem w_next_ok (l : Launch) (D : va_G) (ad : Nat → Nat) (cI cJ : ClassId) (tt : va_W) (h r1 f1 s1 o : Nat) (R F S : Nat → Int32) (cn : Nat) (g : Nat → Int64) (ee : Int32) (hl9 : l.stackTraces = false) (hR : rk_ok R cn) (hk : rk_kN R ee cn = 0) : uI l yL_next wsL_next ({ frames := 9, cells := 1, slots := 6, locals := 200 } : Room) D ad [(cI, .int), (cJ, .long)] [.ref h, .int ee, .ref o] (wX h r1 f1 s1 cI R F S cn ((o, .inl (cJ, 1, .inr (.inl g))) :: tt)) (wX h r1 f1 s1 cI R F S cn ((o, .inl (cJ, 1, .inr (.inl (vp_updL g 0 ((R (rk_pb R ee cn)).toInt64))))) :: tt)) (0) 1 6 := by
  unfold uI
  refine st_W (Qc := qI D [(cI, .int), (cJ, .long)] (wX h r1 f1 s1 cI R F S cn ((o, .inl (cJ, 1, .inr (.inl (vp_updL g 0 ((R (rk_pb R ee cn)).toInt64))))) :: tt)) 0) (hh := [(0, 9, 12, 15)]) (mc := 1) (ms := 6) (cc := cL_next) (maxL := 4) (ret := (some .int)) [.ref h, .int ee, .ref o] (by decide) rfl (Nat.le_of_ble_eq_true rfl) (fun p en s m below meth c A ls hTab hx hb hr hlocks hml hts hown hA hS hP hK hD hX hl => ?_)
  have hown : s.vm.findClass RL = some m.cls := hown
  have hl : lv_has ls 4 [(0, .ref h), (1, .int ee), (2, .ref o)] := hl
  have SC : CallFix p m c cL_next 4 s ([.ref h, .int ee, .ref o] : List Value).toArray wsL_next RL := ⟨hx, hb, hml, hown, hts⟩
  refine lv_aload_n hx hb dL_next_0 rfl (lv_at hl 2 rfl) ?_
  refine lv_iconst (v := 0) hx hb dL_next_1 (by decide) ?_
  refine lv_aload_n hx hb dL_next_2 rfl (lv_at hl 0 rfl) ?_
  refine lv_iload_n hx hb dL_next_3 rfl (lv_at hl 1 rfl) ?_
  refine r_c (rm := ({ frames := 8, cells := 1, slots := 6, locals := 160 } : Room)) (As := [.int ee]) (rest := [.int 0, .ref o]) (m_next l D ad cI cJ ((o, .inl (cJ, 1, .inr (.inl g))) :: tt) h r1 f1 s1 R F S cn ee hl9 hR) SC (cwV 1 hts gL_next_X0_next rfl rfl rfl (by decide +kernel) ⟨Nat.le_of_ble_eq_true rfl, Nat.le_of_ble_eq_true rfl⟩) hP hK hD hS hA hX 0 rfl rfl rfl hl.1 rfl (Nat.le_of_ble_eq_true rfl) dL_next_4 ⟨Nat.le_of_ble_eq_true rfl, Nat.le_of_ble_eq_true rfl⟩ (fun E ce q9 H locs hk0 _ _ _ _ _ _ _ => absurd hk hk0) (fun H locs _ hP hD hS => ?_)
  have hP : va_P D vwD (wX h r1 f1 s1 cI R F S cn ((o, .inl (cJ, 1, .inr (.inl g))) :: tt)) H := hP
  have hD : va_D A (wX h r1 f1 s1 cI R F S cn ((o, .inl (cJ, 1, .inr (.inl g))) :: tt)) := hD
  refine lv_i2l hx hb dL_next_7 rfl ?_
  refine va_last hx hb hK hP hD hS 4 1 rfl rfl (vp_in_nI (n := 0) (N := 1) (by decide) (by decide)) dL_next_8 (fun H locs hP hD hS => ?_)
  rw [sb_cl0] at hP hD
  have hP : va_P D vwD (wX h r1 f1 s1 cI R F S cn ((o, .inl (cJ, 1, .inr (.inl (vp_updL g 0 (((R (rk_pb R ee cn))).toInt64))))) :: tt)) H := hP
  have hD : va_D A (wX h r1 f1 s1 cI R F S cn ((o, .inl (cJ, 1, .inr (.inl (vp_updL g 0 (((R (rk_pb R ee cn))).toInt64))))) :: tt)) := hD
  refine lv_goto (tgt := 15) hx hb dL_next_9 (by decide) ?_
  refine lv_iconst (v := 0) hx hb dL_next_15 (by decide) ?_
  exact e_i hx hb hr hlocks hP hK hD hS dL_next_16 (Nat.le_of_ble_eq_true rfl) (Nat.le_of_ble_eq_true rfl)
set_option maxHeartbeats 4000000 in
set_option maxRecDepth 100000 in
theorem w_next_bad (l : Launch) (D : va_G) (ad : Nat → Nat) (cI cJ : ClassId) (tt : va_W) (h r1 f1 s1 o : Nat) (R F S : Nat → Int32) (cn : Nat) (g : Nat → Int64) (ee : Int32) (hl9 : l.stackTraces = false) (hR : rk_ok R cn) (hk : rk_kN R ee cn ≠ 0) : uI l yL_next wsL_next ({ frames := 9, cells := 1, slots := 6, locals := 200 } : Room) D ad [(cI, .int), (cJ, .long)] [.ref h, .int ee, .ref o] (wX h r1 f1 s1 cI R F S cn ((o, .inl (cJ, 1, .inr (.inl g))) :: tt)) (wX h r1 f1 s1 cI R F S cn ((o, .inl (cJ, 1, .inr (.inl g))) :: tt)) (1) 1 6 := by
  unfold uI
  refine st_W (Qc := qI D [(cI, .int), (cJ, .long)] (wX h r1 f1 s1 cI R F S cn ((o, .inl (cJ, 1, .inr (.inl g))) :: tt)) (1)) (hh := [(0, 9, 12, 15)]) (mc := 1) (ms := 6) (cc := cL_next) (maxL := 4) (ret := (some .int)) [.ref h, .int ee, .ref o] (by decide) rfl (Nat.le_of_ble_eq_true rfl) (fun p en s m below meth c A ls hTab hx hb hr hlocks hml hts hown hA hS hP hK hD hX hl => ?_)
  have hown : s.vm.findClass RL = some m.cls := hown
  have hl : lv_has ls 4 [(0, .ref h), (1, .int ee), (2, .ref o)] := hl
  have SC : CallFix p m c cL_next 4 s ([.ref h, .int ee, .ref o] : List Value).toArray wsL_next RL := ⟨hx, hb, hml, hown, hts⟩
  refine lv_aload_n hx hb dL_next_0 rfl (lv_at hl 2 rfl) ?_
  refine lv_iconst (v := 0) hx hb dL_next_1 (by decide) ?_
  refine lv_aload_n hx hb dL_next_2 rfl (lv_at hl 0 rfl) ?_
  refine lv_iload_n hx hb dL_next_3 rfl (lv_at hl 1 rfl) ?_
  refine r_c (rm := ({ frames := 8, cells := 1, slots := 6, locals := 160 } : Room)) (As := [.int ee]) (rest := [.int 0, .ref o]) (m_next l D ad cI cJ ((o, .inl (cJ, 1, .inr (.inl g))) :: tt) h r1 f1 s1 R F S cn ee hl9 hR) SC (cwV 1 hts gL_next_X0_next rfl rfl rfl (by decide +kernel) ⟨Nat.le_of_ble_eq_true rfl, Nat.le_of_ble_eq_true rfl⟩) hP hK hD hS hA hX 0 rfl rfl rfl hl.1 rfl (Nat.le_of_ble_eq_true rfl) dL_next_4 ⟨Nat.le_of_ble_eq_true rfl, Nat.le_of_ble_eq_true rfl⟩ (fun E ce q9 H locs _ hE hP hD hS hce hcv hcl => ?_) (fun H locs hk0 _ _ _ => absurd hk0 hk)
  rcases rk_kN_r R ee cn with h9 | h9
  · exact absurd h9 hk
  · have hE : E = "java/util/NoSuchElementException" := by rw [hE, h9]; rfl
    subst hE
    refine vx_catch (own := RL) (name := "java/util/NoSuchElementException") (E := "java/util/NoSuchElementException") hown [] ⟨0, 9, 12, 15⟩ [] (by rw [hTab]; rfl) (fun z hz => nomatch hz) (by decide) (by decide) (hts (.classLink RL 15 "java/util/NoSuchElementException") (by decide +kernel)) (va_Nw.use rfl (hX.2.1 _ (List.mem_of_getElem? (i := 1) rfl))) hce hcv hcl ?_
    refine lv_astore_n (lv' := [(3, .ref q9), (0, .ref h), (1, .int ee), (2, .ref o)]) hx hb dL_next_12 rfl hl (by decide) rfl (fun ls hl => ?_)
    refine lv_iconst (v := 1) hx hb dL_next_13 (by decide) ?_
    exact e_i hx hb hr hlocks hP hK hD hS dL_next_14 (Nat.le_of_ble_eq_true rfl) (Nat.le_of_ble_eq_true rfl)
set_option maxHeartbeats 4000000 in
set_option maxRecDepth 100000 in
theorem w_place_ok (l : Launch) (D : va_G) (ad : Nat → Nat) (cI cJ : ClassId) (tt : va_W) (h r1 f1 s1 o : Nat) (R F S : Nat → Int32) (cn : Nat) (g : Nat → Int64) (ee : Int32) (hl9 : l.stackTraces = false) (hR : rk_ok R cn) (hk : rk_kP ee cn = 0) : uI l yL_place wsL_place ({ frames := 9, cells := 1, slots := 6, locals := 200 } : Room) D ad [(cI, .int), (cJ, .long)] [.ref h, .int ee, .ref o] (wX h r1 f1 s1 cI R F S cn ((o, .inl (cJ, 1, .inr (.inl g))) :: tt)) (wX h r1 f1 s1 cI R F S cn ((o, .inl (cJ, 1, .inr (.inl (vp_updL g 0 ((nI (rk_pl R ee cn)).toInt64))))) :: tt)) (0) 1 6 := by
  unfold uI
  refine st_W (Qc := qI D [(cI, .int), (cJ, .long)] (wX h r1 f1 s1 cI R F S cn ((o, .inl (cJ, 1, .inr (.inl (vp_updL g 0 ((nI (rk_pl R ee cn)).toInt64))))) :: tt)) 0) (hh := [(0, 9, 12, 15)]) (mc := 1) (ms := 6) (cc := cL_place) (maxL := 4) (ret := (some .int)) [.ref h, .int ee, .ref o] (by decide) rfl (Nat.le_of_ble_eq_true rfl) (fun p en s m below meth c A ls hTab hx hb hr hlocks hml hts hown hA hS hP hK hD hX hl => ?_)
  have hown : s.vm.findClass RL = some m.cls := hown
  have hl : lv_has ls 4 [(0, .ref h), (1, .int ee), (2, .ref o)] := hl
  have SC : CallFix p m c cL_place 4 s ([.ref h, .int ee, .ref o] : List Value).toArray wsL_place RL := ⟨hx, hb, hml, hown, hts⟩
  refine lv_aload_n hx hb dL_place_0 rfl (lv_at hl 2 rfl) ?_
  refine lv_iconst (v := 0) hx hb dL_place_1 (by decide) ?_
  refine lv_aload_n hx hb dL_place_2 rfl (lv_at hl 0 rfl) ?_
  refine lv_iload_n hx hb dL_place_3 rfl (lv_at hl 1 rfl) ?_
  refine r_c (rm := ({ frames := 8, cells := 1, slots := 6, locals := 160 } : Room)) (As := [.int ee]) (rest := [.int 0, .ref o]) (m_place l D ad cI cJ ((o, .inl (cJ, 1, .inr (.inl g))) :: tt) h r1 f1 s1 R F S cn ee hl9 hR) SC (cwV 1 hts gL_place_X0_place rfl rfl rfl (by decide +kernel) ⟨Nat.le_of_ble_eq_true rfl, Nat.le_of_ble_eq_true rfl⟩) hP hK hD hS hA hX 0 rfl rfl rfl hl.1 rfl (Nat.le_of_ble_eq_true rfl) dL_place_4 ⟨Nat.le_of_ble_eq_true rfl, Nat.le_of_ble_eq_true rfl⟩ (fun E ce q9 H locs hk0 _ _ _ _ _ _ _ => absurd hk hk0) (fun H locs _ hP hD hS => ?_)
  have hP : va_P D vwD (wX h r1 f1 s1 cI R F S cn ((o, .inl (cJ, 1, .inr (.inl g))) :: tt)) H := hP
  have hD : va_D A (wX h r1 f1 s1 cI R F S cn ((o, .inl (cJ, 1, .inr (.inl g))) :: tt)) := hD
  refine lv_i2l hx hb dL_place_7 rfl ?_
  refine va_last hx hb hK hP hD hS 4 1 rfl rfl (vp_in_nI (n := 0) (N := 1) (by decide) (by decide)) dL_place_8 (fun H locs hP hD hS => ?_)
  rw [sb_cl0] at hP hD
  have hP : va_P D vwD (wX h r1 f1 s1 cI R F S cn ((o, .inl (cJ, 1, .inr (.inl (vp_updL g 0 (((nI (rk_pl R ee cn))).toInt64))))) :: tt)) H := hP
  have hD : va_D A (wX h r1 f1 s1 cI R F S cn ((o, .inl (cJ, 1, .inr (.inl (vp_updL g 0 (((nI (rk_pl R ee cn))).toInt64))))) :: tt)) := hD
  refine lv_goto (tgt := 15) hx hb dL_place_9 (by decide) ?_
  refine lv_iconst (v := 0) hx hb dL_place_15 (by decide) ?_
  exact e_i hx hb hr hlocks hP hK hD hS dL_place_16 (Nat.le_of_ble_eq_true rfl) (Nat.le_of_ble_eq_true rfl)
set_option maxHeartbeats 4000000 in
set_option maxRecDepth 100000 in
theorem w_place_bad (l : Launch) (D : va_G) (ad : Nat → Nat) (cI cJ : ClassId) (tt : va_W) (h r1 f1 s1 o : Nat) (R F S : Nat → Int32) (cn : Nat) (g : Nat → Int64) (ee : Int32) (hl9 : l.stackTraces = false) (hR : rk_ok R cn) (hk : rk_kP ee cn ≠ 0) : uI l yL_place wsL_place ({ frames := 9, cells := 1, slots := 6, locals := 200 } : Room) D ad [(cI, .int), (cJ, .long)] [.ref h, .int ee, .ref o] (wX h r1 f1 s1 cI R F S cn ((o, .inl (cJ, 1, .inr (.inl g))) :: tt)) (wX h r1 f1 s1 cI R F S cn ((o, .inl (cJ, 1, .inr (.inl g))) :: tt)) (1) 1 6 := by
  unfold uI
  refine st_W (Qc := qI D [(cI, .int), (cJ, .long)] (wX h r1 f1 s1 cI R F S cn ((o, .inl (cJ, 1, .inr (.inl g))) :: tt)) (1)) (hh := [(0, 9, 12, 15)]) (mc := 1) (ms := 6) (cc := cL_place) (maxL := 4) (ret := (some .int)) [.ref h, .int ee, .ref o] (by decide) rfl (Nat.le_of_ble_eq_true rfl) (fun p en s m below meth c A ls hTab hx hb hr hlocks hml hts hown hA hS hP hK hD hX hl => ?_)
  have hown : s.vm.findClass RL = some m.cls := hown
  have hl : lv_has ls 4 [(0, .ref h), (1, .int ee), (2, .ref o)] := hl
  have SC : CallFix p m c cL_place 4 s ([.ref h, .int ee, .ref o] : List Value).toArray wsL_place RL := ⟨hx, hb, hml, hown, hts⟩
  refine lv_aload_n hx hb dL_place_0 rfl (lv_at hl 2 rfl) ?_
  refine lv_iconst (v := 0) hx hb dL_place_1 (by decide) ?_
  refine lv_aload_n hx hb dL_place_2 rfl (lv_at hl 0 rfl) ?_
  refine lv_iload_n hx hb dL_place_3 rfl (lv_at hl 1 rfl) ?_
  refine r_c (rm := ({ frames := 8, cells := 1, slots := 6, locals := 160 } : Room)) (As := [.int ee]) (rest := [.int 0, .ref o]) (m_place l D ad cI cJ ((o, .inl (cJ, 1, .inr (.inl g))) :: tt) h r1 f1 s1 R F S cn ee hl9 hR) SC (cwV 1 hts gL_place_X0_place rfl rfl rfl (by decide +kernel) ⟨Nat.le_of_ble_eq_true rfl, Nat.le_of_ble_eq_true rfl⟩) hP hK hD hS hA hX 0 rfl rfl rfl hl.1 rfl (Nat.le_of_ble_eq_true rfl) dL_place_4 ⟨Nat.le_of_ble_eq_true rfl, Nat.le_of_ble_eq_true rfl⟩ (fun E ce q9 H locs _ hE hP hD hS hce hcv hcl => ?_) (fun H locs hk0 _ _ _ => absurd hk0 hk)
  rcases rk_kP_r ee cn with h9 | h9
  · exact absurd h9 hk
  · have hE : E = "java/util/NoSuchElementException" := by rw [hE, h9]; rfl
    subst hE
    refine vx_catch (own := RL) (name := "java/util/NoSuchElementException") (E := "java/util/NoSuchElementException") hown [] ⟨0, 9, 12, 15⟩ [] (by rw [hTab]; rfl) (fun z hz => nomatch hz) (by decide) (by decide) (hts (.classLink RL 15 "java/util/NoSuchElementException") (by decide +kernel)) (va_Nw.use rfl (hX.2.1 _ (List.mem_of_getElem? (i := 1) rfl))) hce hcv hcl ?_
    refine lv_astore_n (lv' := [(3, .ref q9), (0, .ref h), (1, .int ee), (2, .ref o)]) hx hb dL_place_12 rfl hl (by decide) rfl (fun ls hl => ?_)
    refine lv_iconst (v := 1) hx hb dL_place_13 (by decide) ?_
    exact e_i hx hb hr hlocks hP hK hD hS dL_place_14 (Nat.le_of_ble_eq_true rfl) (Nat.le_of_ble_eq_true rfl)
end
section
/-! The law's eight cases -/
/-- both objects in the same state, the place of the answer, in the law's order -/
abbrev wL (h r1 f1 s1 o hm rm fm sm : Nat) (kI kJ : ClassId) (R F S : Nat → Int32) (cn : Nat) (g : Nat → Int64) (th : Int32) : va_W := [(h, .inr (0, [.ref r1, .ref f1, .ref s1, .int (nI cn)])), (r1, .inl (kI, 4000, .inl R)), (f1, .inl (kI, 4000, .inl F)), (s1, .inl (kI, 4000, .inl S)), (o, .inl (kJ, 1, .inr (.inl g))), (hm, .inr (1, [.ref rm, .ref fm, .ref sm, .int (nI cn), .int th])), (rm, .inl (kI, 4000, .inl R)), (fm, .inl (kI, 4000, .inl F)), (sm, .inl (kI, 4000, .inl S))]
/-- what holds all along the law -/
def lwC (p : Program) (l : Launch) (s : State) (m : MethodId) (c : Code) (b L : Nat) (xs : Nat → Int32) (D : va_G) (ad : Nat → Nat) (kI kJ : ClassId) (A : Nat → Prop) : Prop := p.tables.exec = Jvm.exec ∧ c.code = cL_law ∧ c.maxLocals = 7 ∧ s.vm.findClass RL = some m.cls ∧ (∀ w ∈ wsL2, w.before #[Value.ref b] s = true) ∧ va_X b L xs s s.heap ∧ b < s.heap.size ∧ ¬ A b ∧ (∀ q, s.heap.size ≤ q → A q) ∧ va_K D vwD [(kI, .int), (kJ, .long)] s ∧ xg ad A s s.heap ∧ l.stackTraces = false
set_option maxHeartbeats 4000000 in
set_option maxRecDepth 100000 in
theorem lc_behind {p : Program} {l : Launch} {e : Env} {s : State} {m : MethodId} {below : List Frame} {meth : Method} {c : Code} {b L : Nat} {xs : Nat → Int32} {D : va_G} {ad : Nat → Nat} {kI kJ : ClassId} {A : Nat → Prop} {Q : State → Prop} (C0 : lwC p l s m c b L xs D ad kI kJ A) (h r1 f1 s1 o hm rm fm sm : Nat) (R F S : Nat → Int32) (cn : Nat) (g : Nat → Int64) (th : Int32) (hR : rk_ok R cn) (i : Nat) (hi : 5 * i + 5 ≤ L) (hL : L ≤ 2560) {H : Heap} {locs : List Loc} {cells slots : Nat} (hcc : cells + 2 ≤ 1047) (hss : slots + 12 ≤ 32286) (hP : va_P D vwD (wL h r1 f1 s1 o hm rm fm sm kI kJ R F S cn g th) H) (hD : va_D A (wL h r1 f1 s1 o hm rm fm sm kI kJ R F S cn g th)) (hS : va_S A s.heap H locs) {ls : Array Slot} (hl : lv_has ls 7 [(4, .int (nI (5 * i))), (3, .ref o), (2, .ref hm), (1, .ref h), (0, .ref b)])
    (kk : ∀ (R F S : Nat → Int32) (cn : Nat) (g : Nat → Int64) (th : Int32) (H : Heap) (locs : List Loc) (ls : Array Slot), rk_ok R cn → va_P D vwD (wL h r1 f1 s1 o hm rm fm sm kI kJ R F S cn g th) H → va_D A (wL h r1 f1 s1 o hm rm fm sm kI kJ R F S cn g th) → va_S A s.heap H locs → lv_has ls 7 [(4, .int (nI (5 * i))), (3, .ref o), (2, .ref hm), (1, .ref h), (0, .ref b)] → W p l e room_1 s m #[Value.ref b] below meth c H locs (cells + 2) (slots + 12) Q (F0 m 585 ls [])) : W p l e room_1 s m #[Value.ref b] below meth c H locs cells slots Q (F0 m 84 ls []) := by
  obtain ⟨hx, hb, hml, hown, hts, hXs, hbl, hbA, hA, hK, hX, hl9⟩ := id C0
  have SC : CallFix p m c cL_law 7 s #[Value.ref b] wsL2 RL := ⟨hx, hb, hml, hown, hts⟩
  obtain ⟨e1, he1⟩ : ∃ x, xs (nI (5 * i + 1)).toNatClampNeg = x := ⟨_, rfl⟩
  obtain ⟨e2, he2⟩ : ∃ x, xs (nI (5 * i + 2)).toNatClampNeg = x := ⟨_, rfl⟩
  obtain ⟨e3, he3⟩ : ∃ x, xs (nI (5 * i + 3)).toNatClampNeg = x := ⟨_, rfl⟩
  obtain ⟨e4, he4⟩ : ∃ x, xs (nI (5 * i + 4)).toNatClampNeg = x := ⟨_, rfl⟩
  refine lv_aload_n hx hb dL_law_84 rfl (lv_at hl 3 rfl) ?_
  refine lv_aload_n hx hb dL_law_85 rfl (lv_at hl 4 rfl) ?_
  refine lv_iload hx hb dL_law_86 (lv_at hl 0 rfl) ?_
  refine lv_iconst (v := 1) hx hb dL_law_88 (by decide) ?_
  refine lv_iadd hx hb dL_law_89 ?_
  refine q_top (nI ((5 * i) + 1)) (nI_1 _) ?_
  refine va_sld hx hb hXs hbl hbA hS (vp_in_nI (n := ((5 * i) + 1)) (by omega) (by omega)) dL_law_90 ?_
  refine q_top e1 he1 ?_
  refine lv_aload_n hx hb dL_law_91 rfl (lv_at hl 4 rfl) ?_
  refine lv_iload hx hb dL_law_92 (lv_at hl 0 rfl) ?_
  refine lv_iconst (v := 2) hx hb dL_law_94 (by decide) ?_
  refine lv_iadd hx hb dL_law_95 ?_
  refine q_top (nI ((5 * i) + 2)) (nI_add _ 2) ?_
  refine va_sld hx hb hXs hbl hbA hS (vp_in_nI (n := ((5 * i) + 2)) (by omega) (by omega)) dL_law_96 ?_
  refine q_top e2 he2 ?_
  refine lv_aload_n hx hb dL_law_97 rfl (lv_at hl 4 rfl) ?_
  refine lv_iload hx hb dL_law_98 (lv_at hl 0 rfl) ?_
  refine lv_iconst (v := 3) hx hb dL_law_100 (by decide) ?_
  refine lv_iadd hx hb dL_law_101 ?_
  refine q_top (nI ((5 * i) + 3)) (nI_add _ 3) ?_
  refine va_sld hx hb hXs hbl hbA hS (vp_in_nI (n := ((5 * i) + 3)) (by omega) (by omega)) dL_law_102 ?_
  refine q_top e3 he3 ?_
  refine lv_aload_n hx hb dL_law_103 rfl (lv_at hl 4 rfl) ?_
  refine lv_iload hx hb dL_law_104 (lv_at hl 0 rfl) ?_
  refine lv_iconst (v := 4) hx hb dL_law_106 (by decide) ?_
  refine lv_iadd hx hb dL_law_107 ?_
  refine q_top (nI ((5 * i) + 4)) (nI_add _ 4) ?_
  refine va_sld hx hb hXs hbl hbA hS (vp_in_nI (n := ((5 * i) + 4)) (by omega) (by omega)) dL_law_108 ?_
  refine q_top e4 he4 ?_
  refine lv_aload_n hx hb dL_law_109 rfl (lv_at hl 1 rfl) ?_
  by_cases hk : rk_kB e1 e2 e3 e4 cn = 0
  · refine r_swi (rm := ({ frames := 9, cells := 1, slots := 6, locals := 200 } : Room)) (As := [.ref h, .int e1, .int e2, .int e3, .int e4, .ref o]) (rest := []) (w_behind_ok l D ad kI kJ [(hm, .inr (1, [.ref rm, .ref fm, .ref sm, .int (nI cn), .int th])), (rm, .inl (kI, 4000, .inl R)), (fm, .inl (kI, 4000, .inl F)), (sm, .inl (kI, 4000, .inl S))] h r1 f1 s1 o R F S cn g e1 e2 e3 e4 hl9 hR hk) SC (vx_cwSW 6 hts (zg_law gL_law_L_behind) rfl rfl rfl (by decide +kernel) ⟨Nat.le_of_ble_eq_true rfl, Nat.le_of_ble_eq_true rfl⟩) hP hK hD hS hA hX rfl hl.1 rfl (Nat.le_of_ble_eq_true rfl) dL_law_110 ⟨by show cells + 1 ≤ 1047; omega, by show slots + 6 ≤ 32286; omega⟩ (fun H locs hP hD hS => ?_)
    have hP : va_P D vwD ([(h, .inr (0, [.ref r1, .ref f1, .ref s1, .int (nI (cn + e2.toNatClampNeg))])), (r1, .inl (kI, 4000, .inl (rk_in R cn (rk_pb R e1 cn) e2.toNatClampNeg))), (f1, .inl (kI, 4000, .inl (rk_fl F cn e2.toNatClampNeg e3))), (s1, .inl (kI, 4000, .inl (rk_fl S cn e2.toNatClampNeg e4))), (o, .inl (kJ, 1, .inr (.inl (vp_updL g 0 ((nI (cn + e2.toNatClampNeg) - 1).toInt64))))), (hm, .inr (1, [.ref rm, .ref fm, .ref sm, .int (nI cn), .int th])), (rm, .inl (kI, 4000, .inl R)), (fm, .inl (kI, 4000, .inl F)), (sm, .inl (kI, 4000, .inl S))]) H := hP
    have hD : va_D A ([(h, .inr (0, [.ref r1, .ref f1, .ref s1, .int (nI (cn + e2.toNatClampNeg))])), (r1, .inl (kI, 4000, .inl (rk_in R cn (rk_pb R e1 cn) e2.toNatClampNeg))), (f1, .inl (kI, 4000, .inl (rk_fl F cn e2.toNatClampNeg e3))), (s1, .inl (kI, 4000, .inl (rk_fl S cn e2.toNatClampNeg e4))), (o, .inl (kJ, 1, .inr (.inl (vp_updL g 0 ((nI (cn + e2.toNatClampNeg) - 1).toInt64))))), (hm, .inr (1, [.ref rm, .ref fm, .ref sm, .int (nI cn), .int th])), (rm, .inl (kI, 4000, .inl R)), (fm, .inl (kI, 4000, .inl F)), (sm, .inl (kI, 4000, .inl S))]) := hD
    refine lv_istore (lv' := [(5, .int 0), (4, .int (nI (5 * i))), (3, .ref o), (2, .ref hm), (1, .ref h), (0, .ref b)]) hx hb dL_law_113 hl (by decide) rfl (fun ls hl => ?_)
    refine lv_aload_n hx hb dL_law_115 rfl (lv_at hl 3 rfl) ?_
    refine lv_aload_n hx hb dL_law_116 rfl (lv_at hl 5 rfl) ?_
    refine lv_iload hx hb dL_law_117 (lv_at hl 1 rfl) ?_
    refine lv_iconst (v := 1) hx hb dL_law_119 (by decide) ?_
    refine lv_iadd hx hb dL_law_120 ?_
    refine q_top (nI ((5 * i) + 1)) (nI_1 _) ?_
    refine va_sld hx hb hXs hbl hbA hS (vp_in_nI (n := ((5 * i) + 1)) (by omega) (by omega)) dL_law_121 ?_
    refine q_top e1 he1 ?_
    refine lv_aload_n hx hb dL_law_122 rfl (lv_at hl 5 rfl) ?_
    refine lv_iload hx hb dL_law_123 (lv_at hl 1 rfl) ?_
    refine lv_iconst (v := 2) hx hb dL_law_125 (by decide) ?_
    refine lv_iadd hx hb dL_law_126 ?_
    refine q_top (nI ((5 * i) + 2)) (nI_add _ 2) ?_
    refine va_sld hx hb hXs hbl hbA hS (vp_in_nI (n := ((5 * i) + 2)) (by omega) (by omega)) dL_law_127 ?_
    refine q_top e2 he2 ?_
    refine lv_aload_n hx hb dL_law_128 rfl (lv_at hl 5 rfl) ?_
    refine lv_iload hx hb dL_law_129 (lv_at hl 1 rfl) ?_
    refine lv_iconst (v := 3) hx hb dL_law_131 (by decide) ?_
    refine lv_iadd hx hb dL_law_132 ?_
    refine q_top (nI ((5 * i) + 3)) (nI_add _ 3) ?_
    refine va_sld hx hb hXs hbl hbA hS (vp_in_nI (n := ((5 * i) + 3)) (by omega) (by omega)) dL_law_133 ?_
    refine q_top e3 he3 ?_
    refine lv_aload_n hx hb dL_law_134 rfl (lv_at hl 5 rfl) ?_
    refine lv_iload hx hb dL_law_135 (lv_at hl 1 rfl) ?_
    refine lv_iconst (v := 4) hx hb dL_law_137 (by decide) ?_
    refine lv_iadd hx hb dL_law_138 ?_
    refine q_top (nI ((5 * i) + 4)) (nI_add _ 4) ?_
    refine va_sld hx hb hXs hbl hbA hS (vp_in_nI (n := ((5 * i) + 4)) (by omega) (by omega)) dL_law_139 ?_
    refine q_top e4 he4 ?_
    refine r_vwi (rm := ({ frames := 8, cells := 1, slots := 6, locals := 180 } : Room)) (As := [.int e1, .int e2, .int e3, .int e4]) (rest := []) (p_behind_ok l D ad kI kJ (h, .inr (0, [.ref r1, .ref f1, .ref s1, .int (nI (cn + e2.toNatClampNeg))])) (r1, .inl (kI, 4000, .inl (rk_in R cn (rk_pb R e1 cn) e2.toNatClampNeg))) (f1, .inl (kI, 4000, .inl (rk_fl F cn e2.toNatClampNeg e3))) (s1, .inl (kI, 4000, .inl (rk_fl S cn e2.toNatClampNeg e4))) (o, .inl (kJ, 1, .inr (.inl (vp_updL g 0 ((nI (cn + e2.toNatClampNeg) - 1).toInt64))))) hm rm fm sm R F S cn th e1 e2 e3 e4 hl9 hR hk) SC (vx_cwVW 4 hts gL2_Z_behind rfl rfl rfl (by decide +kernel) ⟨Nat.le_of_ble_eq_true rfl, Nat.le_of_ble_eq_true rfl⟩) hP hK hD hS hA hX 5 rfl rfl rfl hl.1 rfl (Nat.le_of_ble_eq_true rfl) dL_law_140 ⟨by show (cells + 1) + 1 ≤ 1047; omega, by show (slots + 6) + 6 ≤ 32286; omega⟩ (fun H locs hP hD hS => ?_)
    have hP : va_P D vwD ([(h, .inr (0, [.ref r1, .ref f1, .ref s1, .int (nI (cn + e2.toNatClampNeg))])), (r1, .inl (kI, 4000, .inl (rk_in R cn (rk_pb R e1 cn) e2.toNatClampNeg))), (f1, .inl (kI, 4000, .inl (rk_fl F cn e2.toNatClampNeg e3))), (s1, .inl (kI, 4000, .inl (rk_fl S cn e2.toNatClampNeg e4))), (o, .inl (kJ, 1, .inr (.inl (vp_updL g 0 ((nI (cn + e2.toNatClampNeg) - 1).toInt64))))), (hm, .inr (1, [.ref rm, .ref fm, .ref sm, .int (nI (cn + e2.toNatClampNeg)), .int 0])), (rm, .inl (kI, 4000, .inl (rk_in R cn (rk_pb R e1 cn) e2.toNatClampNeg))), (fm, .inl (kI, 4000, .inl (rk_fl F cn e2.toNatClampNeg e3))), (sm, .inl (kI, 4000, .inl (rk_fl S cn e2.toNatClampNeg e4)))]) H := hP
    have hD : va_D A ([(h, .inr (0, [.ref r1, .ref f1, .ref s1, .int (nI (cn + e2.toNatClampNeg))])), (r1, .inl (kI, 4000, .inl (rk_in R cn (rk_pb R e1 cn) e2.toNatClampNeg))), (f1, .inl (kI, 4000, .inl (rk_fl F cn e2.toNatClampNeg e3))), (s1, .inl (kI, 4000, .inl (rk_fl S cn e2.toNatClampNeg e4))), (o, .inl (kJ, 1, .inr (.inl (vp_updL g 0 ((nI (cn + e2.toNatClampNeg) - 1).toInt64))))), (hm, .inr (1, [.ref rm, .ref fm, .ref sm, .int (nI (cn + e2.toNatClampNeg)), .int 0])), (rm, .inl (kI, 4000, .inl (rk_in R cn (rk_pb R e1 cn) e2.toNatClampNeg))), (fm, .inl (kI, 4000, .inl (rk_fl F cn e2.toNatClampNeg e3))), (sm, .inl (kI, 4000, .inl (rk_fl S cn e2.toNatClampNeg e4)))]) := hD
    refine lv_istore (lv' := [(6, .int (nI (cn + e2.toNatClampNeg) - 1)), (5, .int 0), (4, .int (nI (5 * i))), (3, .ref o), (2, .ref hm), (1, .ref h), (0, .ref b)]) hx hb dL_law_143 hl (by decide) rfl (fun ls hl => ?_)
    refine lv_aload_n hx hb dL_law_145 rfl (lv_at hl 4 rfl) ?_
    refine r_i (rm := ({ frames := 0, cells := 0, slots := 0, locals := 0 } : Room)) (As := []) (rest := []) (j_tn l D ad kI kJ (h, .inr (0, [.ref r1, .ref f1, .ref s1, .int (nI (cn + e2.toNatClampNeg))])) (r1, .inl (kI, 4000, .inl (rk_in R cn (rk_pb R e1 cn) e2.toNatClampNeg))) (f1, .inl (kI, 4000, .inl (rk_fl F cn e2.toNatClampNeg e3))) (s1, .inl (kI, 4000, .inl (rk_fl S cn e2.toNatClampNeg e4))) (o, .inl (kJ, 1, .inr (.inl (vp_updL g 0 ((nI (cn + e2.toNatClampNeg) - 1).toInt64))))) hm rm fm sm (rk_in R cn (rk_pb R e1 cn) e2.toNatClampNeg) (rk_fl F cn e2.toNatClampNeg e3) (rk_fl S cn e2.toNatClampNeg e4) (cn + e2.toNatClampNeg) 0) SC (cwV 0 hts gL2_Z_thrown rfl rfl rfl (by decide +kernel) ⟨Nat.le_of_ble_eq_true rfl, Nat.le_of_ble_eq_true rfl⟩) hP hK hD hS hA hX 5 rfl rfl rfl hl.1 rfl (Nat.le_of_ble_eq_true rfl) dL_law_146 ⟨by show ((cells + 1) + 1) + 0 ≤ 1047; omega, by show ((slots + 6) + 6) + 0 ≤ 32286; omega⟩ (fun H locs hP hD hS => ?_)
    have hP : va_P D vwD ([(h, .inr (0, [.ref r1, .ref f1, .ref s1, .int (nI (cn + e2.toNatClampNeg))])), (r1, .inl (kI, 4000, .inl (rk_in R cn (rk_pb R e1 cn) e2.toNatClampNeg))), (f1, .inl (kI, 4000, .inl (rk_fl F cn e2.toNatClampNeg e3))), (s1, .inl (kI, 4000, .inl (rk_fl S cn e2.toNatClampNeg e4))), (o, .inl (kJ, 1, .inr (.inl (vp_updL g 0 ((nI (cn + e2.toNatClampNeg) - 1).toInt64))))), (hm, .inr (1, [.ref rm, .ref fm, .ref sm, .int (nI (cn + e2.toNatClampNeg)), .int 0])), (rm, .inl (kI, 4000, .inl (rk_in R cn (rk_pb R e1 cn) e2.toNatClampNeg))), (fm, .inl (kI, 4000, .inl (rk_fl F cn e2.toNatClampNeg e3))), (sm, .inl (kI, 4000, .inl (rk_fl S cn e2.toNatClampNeg e4)))]) H := hP
    have hD : va_D A ([(h, .inr (0, [.ref r1, .ref f1, .ref s1, .int (nI (cn + e2.toNatClampNeg))])), (r1, .inl (kI, 4000, .inl (rk_in R cn (rk_pb R e1 cn) e2.toNatClampNeg))), (f1, .inl (kI, 4000, .inl (rk_fl F cn e2.toNatClampNeg e3))), (s1, .inl (kI, 4000, .inl (rk_fl S cn e2.toNatClampNeg e4))), (o, .inl (kJ, 1, .inr (.inl (vp_updL g 0 ((nI (cn + e2.toNatClampNeg) - 1).toInt64))))), (hm, .inr (1, [.ref rm, .ref fm, .ref sm, .int (nI (cn + e2.toNatClampNeg)), .int 0])), (rm, .inl (kI, 4000, .inl (rk_in R cn (rk_pb R e1 cn) e2.toNatClampNeg))), (fm, .inl (kI, 4000, .inl (rk_fl F cn e2.toNatClampNeg e3))), (sm, .inl (kI, 4000, .inl (rk_fl S cn e2.toNatClampNeg e4)))]) := hD
    refine lv_iload hx hb dL_law_149 (lv_at hl 1 rfl) ?_
    refine lv_icmp_eq (tgt := 156) hx hb dL_law_151 (by decide) (fun _ => ?_) (fun h9 => absurd (rfl) h9)
    refine lv_iload hx hb dL_law_156 (lv_at hl 1 rfl) ?_
    refine lv_if_ne (tgt := 173) hx hb dL_law_158 (by decide) (fun h9 => absurd h9 (fun q => q rfl)) (fun _ => ?_)
    refine lv_aload_n hx hb dL_law_161 rfl (lv_at hl 3 rfl) ?_
    refine lv_iconst (v := 0) hx hb dL_law_162 (by decide) ?_
    refine va_lald hx hb hK hP 4 1 rfl rfl (vp_in_nI (n := 0) (N := 1) (by decide) (by decide)) dL_law_163 ?_
    refine q_topl ((nI (cn + e2.toNatClampNeg) - 1).toInt64) (by rw [sb_cl0, pk_uLs]) ?_
    refine lv_iload hx hb dL_law_164 (lv_at hl 0 rfl) ?_
    refine lv_i2l hx hb dL_law_166 rfl ?_
    refine W.lcmp hx hb dL_law_167 ?_
    refine q_top 0 ((lg_cmp_eq _ _).mpr rfl) ?_
    refine lv_if_eq (tgt := 173) hx hb dL_law_168 (by decide) (fun _ => ?_) (fun h9 => absurd (rfl) h9)
    refine lv_goto (tgt := 585) hx hb dL_law_173 (by decide) ?_
    refine W.widen (k := cells + 2) (n := slots + 12) (by omega) (by omega) ?_
    exact kk (rk_in R cn (rk_pb R e1 cn) e2.toNatClampNeg) (rk_fl F cn e2.toNatClampNeg e3) (rk_fl S cn e2.toNatClampNeg e4) (cn + e2.toNatClampNeg) (vp_updL g 0 ((nI (cn + e2.toNatClampNeg) - 1).toInt64)) 0 H locs ls (rk_ok_in hR (rk_pb_le hR (rk_kB_i hk).1) (rk_kB_i hk).2) hP hD hS (lv_sub hl [2, 3, 4, 5, 6] rfl)
  · refine r_swi (rm := ({ frames := 9, cells := 1, slots := 6, locals := 200 } : Room)) (As := [.ref h, .int e1, .int e2, .int e3, .int e4, .ref o]) (rest := []) (w_behind_bad l D ad kI kJ [(hm, .inr (1, [.ref rm, .ref fm, .ref sm, .int (nI cn), .int th])), (rm, .inl (kI, 4000, .inl R)), (fm, .inl (kI, 4000, .inl F)), (sm, .inl (kI, 4000, .inl S))] h r1 f1 s1 o R F S cn g e1 e2 e3 e4 hl9 hR hk) SC (vx_cwSW 6 hts (zg_law gL_law_L_behind) rfl rfl rfl (by decide +kernel) ⟨Nat.le_of_ble_eq_true rfl, Nat.le_of_ble_eq_true rfl⟩) hP hK hD hS hA hX rfl hl.1 rfl (Nat.le_of_ble_eq_true rfl) dL_law_110 ⟨by show cells + 1 ≤ 1047; omega, by show slots + 6 ≤ 32286; omega⟩ (fun H locs hP hD hS => ?_)
    have hP : va_P D vwD ([(h, .inr (0, [.ref r1, .ref f1, .ref s1, .int (nI cn)])), (r1, .inl (kI, 4000, .inl R)), (f1, .inl (kI, 4000, .inl F)), (s1, .inl (kI, 4000, .inl S)), (o, .inl (kJ, 1, .inr (.inl g))), (hm, .inr (1, [.ref rm, .ref fm, .ref sm, .int (nI cn), .int th])), (rm, .inl (kI, 4000, .inl R)), (fm, .inl (kI, 4000, .inl F)), (sm, .inl (kI, 4000, .inl S))]) H := hP
    have hD : va_D A ([(h, .inr (0, [.ref r1, .ref f1, .ref s1, .int (nI cn)])), (r1, .inl (kI, 4000, .inl R)), (f1, .inl (kI, 4000, .inl F)), (s1, .inl (kI, 4000, .inl S)), (o, .inl (kJ, 1, .inr (.inl g))), (hm, .inr (1, [.ref rm, .ref fm, .ref sm, .int (nI cn), .int th])), (rm, .inl (kI, 4000, .inl R)), (fm, .inl (kI, 4000, .inl F)), (sm, .inl (kI, 4000, .inl S))]) := hD
    refine lv_istore (lv' := [(5, .int (nI (rk_kB e1 e2 e3 e4 cn))), (4, .int (nI (5 * i))), (3, .ref o), (2, .ref hm), (1, .ref h), (0, .ref b)]) hx hb dL_law_113 hl (by decide) rfl (fun ls hl => ?_)
    refine lv_aload_n hx hb dL_law_115 rfl (lv_at hl 3 rfl) ?_
    refine lv_aload_n hx hb dL_law_116 rfl (lv_at hl 5 rfl) ?_
    refine lv_iload hx hb dL_law_117 (lv_at hl 1 rfl) ?_
    refine lv_iconst (v := 1) hx hb dL_law_119 (by decide) ?_
    refine lv_iadd hx hb dL_law_120 ?_
    refine q_top (nI ((5 * i) + 1)) (nI_1 _) ?_
    refine va_sld hx hb hXs hbl hbA hS (vp_in_nI (n := ((5 * i) + 1)) (by omega) (by omega)) dL_law_121 ?_
    refine q_top e1 he1 ?_
    refine lv_aload_n hx hb dL_law_122 rfl (lv_at hl 5 rfl) ?_
    refine lv_iload hx hb dL_law_123 (lv_at hl 1 rfl) ?_
    refine lv_iconst (v := 2) hx hb dL_law_125 (by decide) ?_
    refine lv_iadd hx hb dL_law_126 ?_
    refine q_top (nI ((5 * i) + 2)) (nI_add _ 2) ?_
    refine va_sld hx hb hXs hbl hbA hS (vp_in_nI (n := ((5 * i) + 2)) (by omega) (by omega)) dL_law_127 ?_
    refine q_top e2 he2 ?_
    refine lv_aload_n hx hb dL_law_128 rfl (lv_at hl 5 rfl) ?_
    refine lv_iload hx hb dL_law_129 (lv_at hl 1 rfl) ?_
    refine lv_iconst (v := 3) hx hb dL_law_131 (by decide) ?_
    refine lv_iadd hx hb dL_law_132 ?_
    refine q_top (nI ((5 * i) + 3)) (nI_add _ 3) ?_
    refine va_sld hx hb hXs hbl hbA hS (vp_in_nI (n := ((5 * i) + 3)) (by omega) (by omega)) dL_law_133 ?_
    refine q_top e3 he3 ?_
    refine lv_aload_n hx hb dL_law_134 rfl (lv_at hl 5 rfl) ?_
    refine lv_iload hx hb dL_law_135 (lv_at hl 1 rfl) ?_
    refine lv_iconst (v := 4) hx hb dL_law_137 (by decide) ?_
    refine lv_iadd hx hb dL_law_138 ?_
    refine q_top (nI ((5 * i) + 4)) (nI_add _ 4) ?_
    refine va_sld hx hb hXs hbl hbA hS (vp_in_nI (n := ((5 * i) + 4)) (by omega) (by omega)) dL_law_139 ?_
    refine q_top e4 he4 ?_
    refine r_vwi (rm := ({ frames := 8, cells := 1, slots := 6, locals := 180 } : Room)) (As := [.int e1, .int e2, .int e3, .int e4]) (rest := []) (p_behind_bad l D ad kI kJ (h, .inr (0, [.ref r1, .ref f1, .ref s1, .int (nI cn)])) (r1, .inl (kI, 4000, .inl R)) (f1, .inl (kI, 4000, .inl F)) (s1, .inl (kI, 4000, .inl S)) (o, .inl (kJ, 1, .inr (.inl g))) hm rm fm sm R F S cn th e1 e2 e3 e4 hl9 hR hk) SC (vx_cwVW 4 hts gL2_Z_behind rfl rfl rfl (by decide +kernel) ⟨Nat.le_of_ble_eq_true rfl, Nat.le_of_ble_eq_true rfl⟩) hP hK hD hS hA hX 5 rfl rfl rfl hl.1 rfl (Nat.le_of_ble_eq_true rfl) dL_law_140 ⟨by show (cells + 1) + 1 ≤ 1047; omega, by show (slots + 6) + 6 ≤ 32286; omega⟩ (fun H locs hP hD hS => ?_)
    have hP : va_P D vwD ([(h, .inr (0, [.ref r1, .ref f1, .ref s1, .int (nI cn)])), (r1, .inl (kI, 4000, .inl R)), (f1, .inl (kI, 4000, .inl F)), (s1, .inl (kI, 4000, .inl S)), (o, .inl (kJ, 1, .inr (.inl g))), (hm, .inr (1, [.ref rm, .ref fm, .ref sm, .int (nI cn), .int (nI (rk_kB e1 e2 e3 e4 cn))])), (rm, .inl (kI, 4000, .inl R)), (fm, .inl (kI, 4000, .inl F)), (sm, .inl (kI, 4000, .inl S))]) H := hP
    have hD : va_D A ([(h, .inr (0, [.ref r1, .ref f1, .ref s1, .int (nI cn)])), (r1, .inl (kI, 4000, .inl R)), (f1, .inl (kI, 4000, .inl F)), (s1, .inl (kI, 4000, .inl S)), (o, .inl (kJ, 1, .inr (.inl g))), (hm, .inr (1, [.ref rm, .ref fm, .ref sm, .int (nI cn), .int (nI (rk_kB e1 e2 e3 e4 cn))])), (rm, .inl (kI, 4000, .inl R)), (fm, .inl (kI, 4000, .inl F)), (sm, .inl (kI, 4000, .inl S))]) := hD
    refine lv_istore (lv' := [(6, .int 0), (5, .int (nI (rk_kB e1 e2 e3 e4 cn))), (4, .int (nI (5 * i))), (3, .ref o), (2, .ref hm), (1, .ref h), (0, .ref b)]) hx hb dL_law_143 hl (by decide) rfl (fun ls hl => ?_)
    refine lv_aload_n hx hb dL_law_145 rfl (lv_at hl 4 rfl) ?_
    refine r_i (rm := ({ frames := 0, cells := 0, slots := 0, locals := 0 } : Room)) (As := []) (rest := []) (j_tn l D ad kI kJ (h, .inr (0, [.ref r1, .ref f1, .ref s1, .int (nI cn)])) (r1, .inl (kI, 4000, .inl R)) (f1, .inl (kI, 4000, .inl F)) (s1, .inl (kI, 4000, .inl S)) (o, .inl (kJ, 1, .inr (.inl g))) hm rm fm sm R F S cn (nI (rk_kB e1 e2 e3 e4 cn))) SC (cwV 0 hts gL2_Z_thrown rfl rfl rfl (by decide +kernel) ⟨Nat.le_of_ble_eq_true rfl, Nat.le_of_ble_eq_true rfl⟩) hP hK hD hS hA hX 5 rfl rfl rfl hl.1 rfl (Nat.le_of_ble_eq_true rfl) dL_law_146 ⟨by show ((cells + 1) + 1) + 0 ≤ 1047; omega, by show ((slots + 6) + 6) + 0 ≤ 32286; omega⟩ (fun H locs hP hD hS => ?_)
    have hP : va_P D vwD ([(h, .inr (0, [.ref r1, .ref f1, .ref s1, .int (nI cn)])), (r1, .inl (kI, 4000, .inl R)), (f1, .inl (kI, 4000, .inl F)), (s1, .inl (kI, 4000, .inl S)), (o, .inl (kJ, 1, .inr (.inl g))), (hm, .inr (1, [.ref rm, .ref fm, .ref sm, .int (nI cn), .int (nI (rk_kB e1 e2 e3 e4 cn))])), (rm, .inl (kI, 4000, .inl R)), (fm, .inl (kI, 4000, .inl F)), (sm, .inl (kI, 4000, .inl S))]) H := hP
    have hD : va_D A ([(h, .inr (0, [.ref r1, .ref f1, .ref s1, .int (nI cn)])), (r1, .inl (kI, 4000, .inl R)), (f1, .inl (kI, 4000, .inl F)), (s1, .inl (kI, 4000, .inl S)), (o, .inl (kJ, 1, .inr (.inl g))), (hm, .inr (1, [.ref rm, .ref fm, .ref sm, .int (nI cn), .int (nI (rk_kB e1 e2 e3 e4 cn))])), (rm, .inl (kI, 4000, .inl R)), (fm, .inl (kI, 4000, .inl F)), (sm, .inl (kI, 4000, .inl S))]) := hD
    refine lv_iload hx hb dL_law_149 (lv_at hl 1 rfl) ?_
    refine lv_icmp_eq (tgt := 156) hx hb dL_law_151 (by decide) (fun _ => ?_) (fun h9 => absurd (rfl) h9)
    refine lv_iload hx hb dL_law_156 (lv_at hl 1 rfl) ?_
    refine lv_if_ne (tgt := 173) hx hb dL_law_158 (by decide) (fun _ => ?_) (fun h9 => absurd h9 (rk_nz (rk_kB_r e1 e2 e3 e4 cn) hk))
    refine lv_goto (tgt := 585) hx hb dL_law_173 (by decide) ?_
    refine W.widen (k := cells + 2) (n := slots + 12) (by omega) (by omega) ?_
    exact kk R F S cn g (nI (rk_kB e1 e2 e3 e4 cn)) H locs ls (hR) hP hD hS (lv_sub hl [2, 3, 4, 5, 6] rfl)
set_option maxHeartbeats 4000000 in
set_option maxRecDepth 100000 in
theorem lc_before {p : Program} {l : Launch} {e : Env} {s : State} {m : MethodId} {below : List Frame} {meth : Method} {c : Code} {b L : Nat} {xs : Nat → Int32} {D : va_G} {ad : Nat → Nat} {kI kJ : ClassId} {A : Nat → Prop} {Q : State → Prop} (C0 : lwC p l s m c b L xs D ad kI kJ A) (h r1 f1 s1 o hm rm fm sm : Nat) (R F S : Nat → Int32) (cn : Nat) (g : Nat → Int64) (th : Int32) (hR : rk_ok R cn) (i : Nat) (hi : 5 * i + 5 ≤ L) (hL : L ≤ 2560) {H : Heap} {locs : List Loc} {cells slots : Nat} (hcc : cells + 2 ≤ 1047) (hss : slots + 12 ≤ 32286) (hP : va_P D vwD (wL h r1 f1 s1 o hm rm fm sm kI kJ R F S cn g th) H) (hD : va_D A (wL h r1 f1 s1 o hm rm fm sm kI kJ R F S cn g th)) (hS : va_S A s.heap H locs) {ls : Array Slot} (hl : lv_has ls 7 [(4, .int (nI (5 * i))), (3, .ref o), (2, .ref hm), (1, .ref h), (0, .ref b)])
    (kk : ∀ (R F S : Nat → Int32) (cn : Nat) (g : Nat → Int64) (th : Int32) (H : Heap) (locs : List Loc) (ls : Array Slot), rk_ok R cn → va_P D vwD (wL h r1 f1 s1 o hm rm fm sm kI kJ R F S cn g th) H → va_D A (wL h r1 f1 s1 o hm rm fm sm kI kJ R F S cn g th) → va_S A s.heap H locs → lv_has ls 7 [(4, .int (nI (5 * i))), (3, .ref o), (2, .ref hm), (1, .ref h), (0, .ref b)] → W p l e room_1 s m #[Value.ref b] below meth c H locs (cells + 2) (slots + 12) Q (F0 m 585 ls [])) : W p l e room_1 s m #[Value.ref b] below meth c H locs cells slots Q (F0 m 176 ls []) := by
  obtain ⟨hx, hb, hml, hown, hts, hXs, hbl, hbA, hA, hK, hX, hl9⟩ := id C0
  have SC : CallFix p m c cL_law 7 s #[Value.ref b] wsL2 RL := ⟨hx, hb, hml, hown, hts⟩
  obtain ⟨e1, he1⟩ : ∃ x, xs (nI (5 * i + 1)).toNatClampNeg = x := ⟨_, rfl⟩
  obtain ⟨e2, he2⟩ : ∃ x, xs (nI (5 * i + 2)).toNatClampNeg = x := ⟨_, rfl⟩
  obtain ⟨e3, he3⟩ : ∃ x, xs (nI (5 * i + 3)).toNatClampNeg = x := ⟨_, rfl⟩
  refine lv_aload_n hx hb dL_law_176 rfl (lv_at hl 3 rfl) ?_
  refine lv_aload_n hx hb dL_law_177 rfl (lv_at hl 4 rfl) ?_
  refine lv_iload hx hb dL_law_178 (lv_at hl 0 rfl) ?_
  refine lv_iconst (v := 1) hx hb dL_law_180 (by decide) ?_
  refine lv_iadd hx hb dL_law_181 ?_
  refine q_top (nI ((5 * i) + 1)) (nI_1 _) ?_
  refine va_sld hx hb hXs hbl hbA hS (vp_in_nI (n := ((5 * i) + 1)) (by omega) (by omega)) dL_law_182 ?_
  refine q_top e1 he1 ?_
  refine lv_aload_n hx hb dL_law_183 rfl (lv_at hl 4 rfl) ?_
  refine lv_iload hx hb dL_law_184 (lv_at hl 0 rfl) ?_
  refine lv_iconst (v := 2) hx hb dL_law_186 (by decide) ?_
  refine lv_iadd hx hb dL_law_187 ?_
  refine q_top (nI ((5 * i) + 2)) (nI_add _ 2) ?_
  refine va_sld hx hb hXs hbl hbA hS (vp_in_nI (n := ((5 * i) + 2)) (by omega) (by omega)) dL_law_188 ?_
  refine q_top e2 he2 ?_
  refine lv_aload_n hx hb dL_law_189 rfl (lv_at hl 4 rfl) ?_
  refine lv_iload hx hb dL_law_190 (lv_at hl 0 rfl) ?_
  refine lv_iconst (v := 3) hx hb dL_law_192 (by decide) ?_
  refine lv_iadd hx hb dL_law_193 ?_
  refine q_top (nI ((5 * i) + 3)) (nI_add _ 3) ?_
  refine va_sld hx hb hXs hbl hbA hS (vp_in_nI (n := ((5 * i) + 3)) (by omega) (by omega)) dL_law_194 ?_
  refine q_top e3 he3 ?_
  refine lv_aload_n hx hb dL_law_195 rfl (lv_at hl 1 rfl) ?_
  by_cases hk : rk_kF e1 e2 e3 cn = 0
  · refine r_swi (rm := ({ frames := 9, cells := 1, slots := 6, locals := 200 } : Room)) (As := [.ref h, .int e1, .int e2, .int e3, .ref o]) (rest := []) (w_before_ok l D ad kI kJ [(hm, .inr (1, [.ref rm, .ref fm, .ref sm, .int (nI cn), .int th])), (rm, .inl (kI, 4000, .inl R)), (fm, .inl (kI, 4000, .inl F)), (sm, .inl (kI, 4000, .inl S))] h r1 f1 s1 o R F S cn g e1 e2 e3 hl9 hR hk) SC (vx_cwSW 5 hts (zg_law gL_law_L_before) rfl rfl rfl (by decide +kernel) ⟨Nat.le_of_ble_eq_true rfl, Nat.le_of_ble_eq_true rfl⟩) hP hK hD hS hA hX rfl hl.1 rfl (Nat.le_of_ble_eq_true rfl) dL_law_196 ⟨by show cells + 1 ≤ 1047; omega, by show slots + 6 ≤ 32286; omega⟩ (fun H locs hP hD hS => ?_)
    have hP : va_P D vwD ([(h, .inr (0, [.ref r1, .ref f1, .ref s1, .int (nI (cn + 1))])), (r1, .inl (kI, 4000, .inl (rk_in R cn (rk_pl R e1 cn) 1))), (f1, .inl (kI, 4000, .inl (rk_fl F cn 1 e2))), (s1, .inl (kI, 4000, .inl (rk_fl S cn 1 e3))), (o, .inl (kJ, 1, .inr (.inl (vp_updL g 0 ((nI (cn + 1) - 1).toInt64))))), (hm, .inr (1, [.ref rm, .ref fm, .ref sm, .int (nI cn), .int th])), (rm, .inl (kI, 4000, .inl R)), (fm, .inl (kI, 4000, .inl F)), (sm, .inl (kI, 4000, .inl S))]) H := hP
    have hD : va_D A ([(h, .inr (0, [.ref r1, .ref f1, .ref s1, .int (nI (cn + 1))])), (r1, .inl (kI, 4000, .inl (rk_in R cn (rk_pl R e1 cn) 1))), (f1, .inl (kI, 4000, .inl (rk_fl F cn 1 e2))), (s1, .inl (kI, 4000, .inl (rk_fl S cn 1 e3))), (o, .inl (kJ, 1, .inr (.inl (vp_updL g 0 ((nI (cn + 1) - 1).toInt64))))), (hm, .inr (1, [.ref rm, .ref fm, .ref sm, .int (nI cn), .int th])), (rm, .inl (kI, 4000, .inl R)), (fm, .inl (kI, 4000, .inl F)), (sm, .inl (kI, 4000, .inl S))]) := hD
    refine lv_istore (lv' := [(5, .int 0), (4, .int (nI (5 * i))), (3, .ref o), (2, .ref hm), (1, .ref h), (0, .ref b)]) hx hb dL_law_199 hl (by decide) rfl (fun ls hl => ?_)
    refine lv_aload_n hx hb dL_law_201 rfl (lv_at hl 3 rfl) ?_
    refine lv_aload_n hx hb dL_law_202 rfl (lv_at hl 5 rfl) ?_
    refine lv_iload hx hb dL_law_203 (lv_at hl 1 rfl) ?_
    refine lv_iconst (v := 1) hx hb dL_law_205 (by decide) ?_
    refine lv_iadd hx hb dL_law_206 ?_
    refine q_top (nI ((5 * i) + 1)) (nI_1 _) ?_
    refine va_sld hx hb hXs hbl hbA hS (vp_in_nI (n := ((5 * i) + 1)) (by omega) (by omega)) dL_law_207 ?_
    refine q_top e1 he1 ?_
    refine lv_aload_n hx hb dL_law_208 rfl (lv_at hl 5 rfl) ?_
    refine lv_iload hx hb dL_law_209 (lv_at hl 1 rfl) ?_
    refine lv_iconst (v := 2) hx hb dL_law_211 (by decide) ?_
    refine lv_iadd hx hb dL_law_212 ?_
    refine q_top (nI ((5 * i) + 2)) (nI_add _ 2) ?_
    refine va_sld hx hb hXs hbl hbA hS (vp_in_nI (n := ((5 * i) + 2)) (by omega) (by omega)) dL_law_213 ?_
    refine q_top e2 he2 ?_
    refine lv_aload_n hx hb dL_law_214 rfl (lv_at hl 5 rfl) ?_
    refine lv_iload hx hb dL_law_215 (lv_at hl 1 rfl) ?_
    refine lv_iconst (v := 3) hx hb dL_law_217 (by decide) ?_
    refine lv_iadd hx hb dL_law_218 ?_
    refine q_top (nI ((5 * i) + 3)) (nI_add _ 3) ?_
    refine va_sld hx hb hXs hbl hbA hS (vp_in_nI (n := ((5 * i) + 3)) (by omega) (by omega)) dL_law_219 ?_
    refine q_top e3 he3 ?_
    refine r_vwi (rm := ({ frames := 8, cells := 1, slots := 6, locals := 180 } : Room)) (As := [.int e1, .int e2, .int e3]) (rest := []) (p_before_ok l D ad kI kJ (h, .inr (0, [.ref r1, .ref f1, .ref s1, .int (nI (cn + 1))])) (r1, .inl (kI, 4000, .inl (rk_in R cn (rk_pl R e1 cn) 1))) (f1, .inl (kI, 4000, .inl (rk_fl F cn 1 e2))) (s1, .inl (kI, 4000, .inl (rk_fl S cn 1 e3))) (o, .inl (kJ, 1, .inr (.inl (vp_updL g 0 ((nI (cn + 1) - 1).toInt64))))) hm rm fm sm R F S cn th e1 e2 e3 hl9 hR hk) SC (vx_cwVW 3 hts gL2_Z_before rfl rfl rfl (by decide +kernel) ⟨Nat.le_of_ble_eq_true rfl, Nat.le_of_ble_eq_true rfl⟩) hP hK hD hS hA hX 5 rfl rfl rfl hl.1 rfl (Nat.le_of_ble_eq_true rfl) dL_law_220 ⟨by show (cells + 1) + 1 ≤ 1047; omega, by show (slots + 6) + 6 ≤ 32286; omega⟩ (fun H locs hP hD hS => ?_)
    have hP : va_P D vwD ([(h, .inr (0, [.ref r1, .ref f1, .ref s1, .int (nI (cn + 1))])), (r1, .inl (kI, 4000, .inl (rk_in R cn (rk_pl R e1 cn) 1))), (f1, .inl (kI, 4000, .inl (rk_fl F cn 1 e2))), (s1, .inl (kI, 4000, .inl (rk_fl S cn 1 e3))), (o, .inl (kJ, 1, .inr (.inl (vp_updL g 0 ((nI (cn + 1) - 1).toInt64))))), (hm, .inr (1, [.ref rm, .ref fm, .ref sm, .int (nI (cn + 1)), .int 0])), (rm, .inl (kI, 4000, .inl (rk_in R cn (rk_pl R e1 cn) 1))), (fm, .inl (kI, 4000, .inl (rk_fl F cn 1 e2))), (sm, .inl (kI, 4000, .inl (rk_fl S cn 1 e3)))]) H := hP
    have hD : va_D A ([(h, .inr (0, [.ref r1, .ref f1, .ref s1, .int (nI (cn + 1))])), (r1, .inl (kI, 4000, .inl (rk_in R cn (rk_pl R e1 cn) 1))), (f1, .inl (kI, 4000, .inl (rk_fl F cn 1 e2))), (s1, .inl (kI, 4000, .inl (rk_fl S cn 1 e3))), (o, .inl (kJ, 1, .inr (.inl (vp_updL g 0 ((nI (cn + 1) - 1).toInt64))))), (hm, .inr (1, [.ref rm, .ref fm, .ref sm, .int (nI (cn + 1)), .int 0])), (rm, .inl (kI, 4000, .inl (rk_in R cn (rk_pl R e1 cn) 1))), (fm, .inl (kI, 4000, .inl (rk_fl F cn 1 e2))), (sm, .inl (kI, 4000, .inl (rk_fl S cn 1 e3)))]) := hD
    refine lv_istore (lv' := [(6, .int (nI (cn + 1) - 1)), (5, .int 0), (4, .int (nI (5 * i))), (3, .ref o), (2, .ref hm), (1, .ref h), (0, .ref b)]) hx hb dL_law_223 hl (by decide) rfl (fun ls hl => ?_)
    refine lv_aload_n hx hb dL_law_225 rfl (lv_at hl 4 rfl) ?_
    refine r_i (rm := ({ frames := 0, cells := 0, slots := 0, locals := 0 } : Room)) (As := []) (rest := []) (j_tn l D ad kI kJ (h, .inr (0, [.ref r1, .ref f1, .ref s1, .int (nI (cn + 1))])) (r1, .inl (kI, 4000, .inl (rk_in R cn (rk_pl R e1 cn) 1))) (f1, .inl (kI, 4000, .inl (rk_fl F cn 1 e2))) (s1, .inl (kI, 4000, .inl (rk_fl S cn 1 e3))) (o, .inl (kJ, 1, .inr (.inl (vp_updL g 0 ((nI (cn + 1) - 1).toInt64))))) hm rm fm sm (rk_in R cn (rk_pl R e1 cn) 1) (rk_fl F cn 1 e2) (rk_fl S cn 1 e3) (cn + 1) 0) SC (cwV 0 hts gL2_Z_thrown rfl rfl rfl (by decide +kernel) ⟨Nat.le_of_ble_eq_true rfl, Nat.le_of_ble_eq_true rfl⟩) hP hK hD hS hA hX 5 rfl rfl rfl hl.1 rfl (Nat.le_of_ble_eq_true rfl) dL_law_226 ⟨by show ((cells + 1) + 1) + 0 ≤ 1047; omega, by show ((slots + 6) + 6) + 0 ≤ 32286; omega⟩ (fun H locs hP hD hS => ?_)
    have hP : va_P D vwD ([(h, .inr (0, [.ref r1, .ref f1, .ref s1, .int (nI (cn + 1))])), (r1, .inl (kI, 4000, .inl (rk_in R cn (rk_pl R e1 cn) 1))), (f1, .inl (kI, 4000, .inl (rk_fl F cn 1 e2))), (s1, .inl (kI, 4000, .inl (rk_fl S cn 1 e3))), (o, .inl (kJ, 1, .inr (.inl (vp_updL g 0 ((nI (cn + 1) - 1).toInt64))))), (hm, .inr (1, [.ref rm, .ref fm, .ref sm, .int (nI (cn + 1)), .int 0])), (rm, .inl (kI, 4000, .inl (rk_in R cn (rk_pl R e1 cn) 1))), (fm, .inl (kI, 4000, .inl (rk_fl F cn 1 e2))), (sm, .inl (kI, 4000, .inl (rk_fl S cn 1 e3)))]) H := hP
    have hD : va_D A ([(h, .inr (0, [.ref r1, .ref f1, .ref s1, .int (nI (cn + 1))])), (r1, .inl (kI, 4000, .inl (rk_in R cn (rk_pl R e1 cn) 1))), (f1, .inl (kI, 4000, .inl (rk_fl F cn 1 e2))), (s1, .inl (kI, 4000, .inl (rk_fl S cn 1 e3))), (o, .inl (kJ, 1, .inr (.inl (vp_updL g 0 ((nI (cn + 1) - 1).toInt64))))), (hm, .inr (1, [.ref rm, .ref fm, .ref sm, .int (nI (cn + 1)), .int 0])), (rm, .inl (kI, 4000, .inl (rk_in R cn (rk_pl R e1 cn) 1))), (fm, .inl (kI, 4000, .inl (rk_fl F cn 1 e2))), (sm, .inl (kI, 4000, .inl (rk_fl S cn 1 e3)))]) := hD
    refine lv_iload hx hb dL_law_229 (lv_at hl 1 rfl) ?_
    refine lv_icmp_eq (tgt := 236) hx hb dL_law_231 (by decide) (fun _ => ?_) (fun h9 => absurd (rfl) h9)
    refine lv_iload hx hb dL_law_236 (lv_at hl 1 rfl) ?_
    refine lv_if_ne (tgt := 253) hx hb dL_law_238 (by decide) (fun h9 => absurd h9 (fun q => q rfl)) (fun _ => ?_)
    refine lv_aload_n hx hb dL_law_241 rfl (lv_at hl 3 rfl) ?_
    refine lv_iconst (v := 0) hx hb dL_law_242 (by decide) ?_
    refine va_lald hx hb hK hP 4 1 rfl rfl (vp_in_nI (n := 0) (N := 1) (by decide) (by decide)) dL_law_243 ?_
    refine q_topl ((nI (cn + 1) - 1).toInt64) (by rw [sb_cl0, pk_uLs]) ?_
    refine lv_iload hx hb dL_law_244 (lv_at hl 0 rfl) ?_
    refine lv_i2l hx hb dL_law_246 rfl ?_
    refine W.lcmp hx hb dL_law_247 ?_
    refine q_top 0 ((lg_cmp_eq _ _).mpr rfl) ?_
    refine lv_if_eq (tgt := 253) hx hb dL_law_248 (by decide) (fun _ => ?_) (fun h9 => absurd (rfl) h9)
    refine lv_goto (tgt := 585) hx hb dL_law_253 (by decide) ?_
    refine W.widen (k := cells + 2) (n := slots + 12) (by omega) (by omega) ?_
    exact kk (rk_in R cn (rk_pl R e1 cn) 1) (rk_fl F cn 1 e2) (rk_fl S cn 1 e3) (cn + 1) (vp_updL g 0 ((nI (cn + 1) - 1).toInt64)) 0 H locs ls (rk_ok_in hR (rk_pl_le R e1 cn) (rk_kF_i hk)) hP hD hS (lv_sub hl [2, 3, 4, 5, 6] rfl)
  · refine r_swi (rm := ({ frames := 9, cells := 1, slots := 6, locals := 200 } : Room)) (As := [.ref h, .int e1, .int e2, .int e3, .ref o]) (rest := []) (w_before_bad l D ad kI kJ [(hm, .inr (1, [.ref rm, .ref fm, .ref sm, .int (nI cn), .int th])), (rm, .inl (kI, 4000, .inl R)), (fm, .inl (kI, 4000, .inl F)), (sm, .inl (kI, 4000, .inl S))] h r1 f1 s1 o R F S cn g e1 e2 e3 hl9 hR hk) SC (vx_cwSW 5 hts (zg_law gL_law_L_before) rfl rfl rfl (by decide +kernel) ⟨Nat.le_of_ble_eq_true rfl, Nat.le_of_ble_eq_true rfl⟩) hP hK hD hS hA hX rfl hl.1 rfl (Nat.le_of_ble_eq_true rfl) dL_law_196 ⟨by show cells + 1 ≤ 1047; omega, by show slots + 6 ≤ 32286; omega⟩ (fun H locs hP hD hS => ?_)
    have hP : va_P D vwD ([(h, .inr (0, [.ref r1, .ref f1, .ref s1, .int (nI cn)])), (r1, .inl (kI, 4000, .inl R)), (f1, .inl (kI, 4000, .inl F)), (s1, .inl (kI, 4000, .inl S)), (o, .inl (kJ, 1, .inr (.inl g))), (hm, .inr (1, [.ref rm, .ref fm, .ref sm, .int (nI cn), .int th])), (rm, .inl (kI, 4000, .inl R)), (fm, .inl (kI, 4000, .inl F)), (sm, .inl (kI, 4000, .inl S))]) H := hP
    have hD : va_D A ([(h, .inr (0, [.ref r1, .ref f1, .ref s1, .int (nI cn)])), (r1, .inl (kI, 4000, .inl R)), (f1, .inl (kI, 4000, .inl F)), (s1, .inl (kI, 4000, .inl S)), (o, .inl (kJ, 1, .inr (.inl g))), (hm, .inr (1, [.ref rm, .ref fm, .ref sm, .int (nI cn), .int th])), (rm, .inl (kI, 4000, .inl R)), (fm, .inl (kI, 4000, .inl F)), (sm, .inl (kI, 4000, .inl S))]) := hD
    refine lv_istore (lv' := [(5, .int (nI (rk_kF e1 e2 e3 cn))), (4, .int (nI (5 * i))), (3, .ref o), (2, .ref hm), (1, .ref h), (0, .ref b)]) hx hb dL_law_199 hl (by decide) rfl (fun ls hl => ?_)
    refine lv_aload_n hx hb dL_law_201 rfl (lv_at hl 3 rfl) ?_
    refine lv_aload_n hx hb dL_law_202 rfl (lv_at hl 5 rfl) ?_
    refine lv_iload hx hb dL_law_203 (lv_at hl 1 rfl) ?_
    refine lv_iconst (v := 1) hx hb dL_law_205 (by decide) ?_
    refine lv_iadd hx hb dL_law_206 ?_
    refine q_top (nI ((5 * i) + 1)) (nI_1 _) ?_
    refine va_sld hx hb hXs hbl hbA hS (vp_in_nI (n := ((5 * i) + 1)) (by omega) (by omega)) dL_law_207 ?_
    refine q_top e1 he1 ?_
    refine lv_aload_n hx hb dL_law_208 rfl (lv_at hl 5 rfl) ?_
    refine lv_iload hx hb dL_law_209 (lv_at hl 1 rfl) ?_
    refine lv_iconst (v := 2) hx hb dL_law_211 (by decide) ?_
    refine lv_iadd hx hb dL_law_212 ?_
    refine q_top (nI ((5 * i) + 2)) (nI_add _ 2) ?_
    refine va_sld hx hb hXs hbl hbA hS (vp_in_nI (n := ((5 * i) + 2)) (by omega) (by omega)) dL_law_213 ?_
    refine q_top e2 he2 ?_
    refine lv_aload_n hx hb dL_law_214 rfl (lv_at hl 5 rfl) ?_
    refine lv_iload hx hb dL_law_215 (lv_at hl 1 rfl) ?_
    refine lv_iconst (v := 3) hx hb dL_law_217 (by decide) ?_
    refine lv_iadd hx hb dL_law_218 ?_
    refine q_top (nI ((5 * i) + 3)) (nI_add _ 3) ?_
    refine va_sld hx hb hXs hbl hbA hS (vp_in_nI (n := ((5 * i) + 3)) (by omega) (by omega)) dL_law_219 ?_
    refine q_top e3 he3 ?_
    refine r_vwi (rm := ({ frames := 8, cells := 1, slots := 6, locals := 180 } : Room)) (As := [.int e1, .int e2, .int e3]) (rest := []) (p_before_bad l D ad kI kJ (h, .inr (0, [.ref r1, .ref f1, .ref s1, .int (nI cn)])) (r1, .inl (kI, 4000, .inl R)) (f1, .inl (kI, 4000, .inl F)) (s1, .inl (kI, 4000, .inl S)) (o, .inl (kJ, 1, .inr (.inl g))) hm rm fm sm R F S cn th e1 e2 e3 hl9 hR hk) SC (vx_cwVW 3 hts gL2_Z_before rfl rfl rfl (by decide +kernel) ⟨Nat.le_of_ble_eq_true rfl, Nat.le_of_ble_eq_true rfl⟩) hP hK hD hS hA hX 5 rfl rfl rfl hl.1 rfl (Nat.le_of_ble_eq_true rfl) dL_law_220 ⟨by show (cells + 1) + 1 ≤ 1047; omega, by show (slots + 6) + 6 ≤ 32286; omega⟩ (fun H locs hP hD hS => ?_)
    have hP : va_P D vwD ([(h, .inr (0, [.ref r1, .ref f1, .ref s1, .int (nI cn)])), (r1, .inl (kI, 4000, .inl R)), (f1, .inl (kI, 4000, .inl F)), (s1, .inl (kI, 4000, .inl S)), (o, .inl (kJ, 1, .inr (.inl g))), (hm, .inr (1, [.ref rm, .ref fm, .ref sm, .int (nI cn), .int (nI (rk_kF e1 e2 e3 cn))])), (rm, .inl (kI, 4000, .inl R)), (fm, .inl (kI, 4000, .inl F)), (sm, .inl (kI, 4000, .inl S))]) H := hP
    have hD : va_D A ([(h, .inr (0, [.ref r1, .ref f1, .ref s1, .int (nI cn)])), (r1, .inl (kI, 4000, .inl R)), (f1, .inl (kI, 4000, .inl F)), (s1, .inl (kI, 4000, .inl S)), (o, .inl (kJ, 1, .inr (.inl g))), (hm, .inr (1, [.ref rm, .ref fm, .ref sm, .int (nI cn), .int (nI (rk_kF e1 e2 e3 cn))])), (rm, .inl (kI, 4000, .inl R)), (fm, .inl (kI, 4000, .inl F)), (sm, .inl (kI, 4000, .inl S))]) := hD
    refine lv_istore (lv' := [(6, .int 0), (5, .int (nI (rk_kF e1 e2 e3 cn))), (4, .int (nI (5 * i))), (3, .ref o), (2, .ref hm), (1, .ref h), (0, .ref b)]) hx hb dL_law_223 hl (by decide) rfl (fun ls hl => ?_)
    refine lv_aload_n hx hb dL_law_225 rfl (lv_at hl 4 rfl) ?_
    refine r_i (rm := ({ frames := 0, cells := 0, slots := 0, locals := 0 } : Room)) (As := []) (rest := []) (j_tn l D ad kI kJ (h, .inr (0, [.ref r1, .ref f1, .ref s1, .int (nI cn)])) (r1, .inl (kI, 4000, .inl R)) (f1, .inl (kI, 4000, .inl F)) (s1, .inl (kI, 4000, .inl S)) (o, .inl (kJ, 1, .inr (.inl g))) hm rm fm sm R F S cn (nI (rk_kF e1 e2 e3 cn))) SC (cwV 0 hts gL2_Z_thrown rfl rfl rfl (by decide +kernel) ⟨Nat.le_of_ble_eq_true rfl, Nat.le_of_ble_eq_true rfl⟩) hP hK hD hS hA hX 5 rfl rfl rfl hl.1 rfl (Nat.le_of_ble_eq_true rfl) dL_law_226 ⟨by show ((cells + 1) + 1) + 0 ≤ 1047; omega, by show ((slots + 6) + 6) + 0 ≤ 32286; omega⟩ (fun H locs hP hD hS => ?_)
    have hP : va_P D vwD ([(h, .inr (0, [.ref r1, .ref f1, .ref s1, .int (nI cn)])), (r1, .inl (kI, 4000, .inl R)), (f1, .inl (kI, 4000, .inl F)), (s1, .inl (kI, 4000, .inl S)), (o, .inl (kJ, 1, .inr (.inl g))), (hm, .inr (1, [.ref rm, .ref fm, .ref sm, .int (nI cn), .int (nI (rk_kF e1 e2 e3 cn))])), (rm, .inl (kI, 4000, .inl R)), (fm, .inl (kI, 4000, .inl F)), (sm, .inl (kI, 4000, .inl S))]) H := hP
    have hD : va_D A ([(h, .inr (0, [.ref r1, .ref f1, .ref s1, .int (nI cn)])), (r1, .inl (kI, 4000, .inl R)), (f1, .inl (kI, 4000, .inl F)), (s1, .inl (kI, 4000, .inl S)), (o, .inl (kJ, 1, .inr (.inl g))), (hm, .inr (1, [.ref rm, .ref fm, .ref sm, .int (nI cn), .int (nI (rk_kF e1 e2 e3 cn))])), (rm, .inl (kI, 4000, .inl R)), (fm, .inl (kI, 4000, .inl F)), (sm, .inl (kI, 4000, .inl S))]) := hD
    refine lv_iload hx hb dL_law_229 (lv_at hl 1 rfl) ?_
    refine lv_icmp_eq (tgt := 236) hx hb dL_law_231 (by decide) (fun _ => ?_) (fun h9 => absurd (rfl) h9)
    refine lv_iload hx hb dL_law_236 (lv_at hl 1 rfl) ?_
    refine lv_if_ne (tgt := 253) hx hb dL_law_238 (by decide) (fun _ => ?_) (fun h9 => absurd h9 (rk_nz (rk_kF_r e1 e2 e3 cn) hk))
    refine lv_goto (tgt := 585) hx hb dL_law_253 (by decide) ?_
    refine W.widen (k := cells + 2) (n := slots + 12) (by omega) (by omega) ?_
    exact kk R F S cn g (nI (rk_kF e1 e2 e3 cn)) H locs ls (hR) hP hD hS (lv_sub hl [2, 3, 4, 5, 6] rfl)
set_option maxHeartbeats 4000000 in
set_option maxRecDepth 100000 in
theorem lc_weigh {p : Program} {l : Launch} {e : Env} {s : State} {m : MethodId} {below : List Frame} {meth : Method} {c : Code} {b L : Nat} {xs : Nat → Int32} {D : va_G} {ad : Nat → Nat} {kI kJ : ClassId} {A : Nat → Prop} {Q : State → Prop} (C0 : lwC p l s m c b L xs D ad kI kJ A) (h r1 f1 s1 o hm rm fm sm : Nat) (R F S : Nat → Int32) (cn : Nat) (g : Nat → Int64) (th : Int32) (hR : rk_ok R cn) (i : Nat) (hi : 5 * i + 5 ≤ L) (hL : L ≤ 2560) {H : Heap} {locs : List Loc} {cells slots : Nat} (hcc : cells + 2 ≤ 1047) (hss : slots + 12 ≤ 32286) (hP : va_P D vwD (wL h r1 f1 s1 o hm rm fm sm kI kJ R F S cn g th) H) (hD : va_D A (wL h r1 f1 s1 o hm rm fm sm kI kJ R F S cn g th)) (hS : va_S A s.heap H locs) {ls : Array Slot} (hl : lv_has ls 7 [(4, .int (nI (5 * i))), (3, .ref o), (2, .ref hm), (1, .ref h), (0, .ref b)])
    (kk : ∀ (R F S : Nat → Int32) (cn : Nat) (g : Nat → Int64) (th : Int32) (H : Heap) (locs : List Loc) (ls : Array Slot), rk_ok R cn → va_P D vwD (wL h r1 f1 s1 o hm rm fm sm kI kJ R F S cn g th) H → va_D A (wL h r1 f1 s1 o hm rm fm sm kI kJ R F S cn g th) → va_S A s.heap H locs → lv_has ls 7 [(4, .int (nI (5 * i))), (3, .ref o), (2, .ref hm), (1, .ref h), (0, .ref b)] → W p l e room_1 s m #[Value.ref b] below meth c H locs (cells + 2) (slots + 12) Q (F0 m 585 ls [])) : W p l e room_1 s m #[Value.ref b] below meth c H locs cells slots Q (F0 m 256 ls []) := by
  obtain ⟨hx, hb, hml, hown, hts, hXs, hbl, hbA, hA, hK, hX, hl9⟩ := id C0
  have SC : CallFix p m c cL_law 7 s #[Value.ref b] wsL2 RL := ⟨hx, hb, hml, hown, hts⟩
  obtain ⟨e1, he1⟩ : ∃ x, xs (nI (5 * i + 1)).toNatClampNeg = x := ⟨_, rfl⟩
  obtain ⟨e2, he2⟩ : ∃ x, xs (nI (5 * i + 2)).toNatClampNeg = x := ⟨_, rfl⟩
  obtain ⟨e3, he3⟩ : ∃ x, xs (nI (5 * i + 3)).toNatClampNeg = x := ⟨_, rfl⟩
  refine lv_aload_n hx hb dL_law_256 rfl (lv_at hl 3 rfl) ?_
  refine lv_aload_n hx hb dL_law_257 rfl (lv_at hl 4 rfl) ?_
  refine lv_iload hx hb dL_law_258 (lv_at hl 0 rfl) ?_
  refine lv_iconst (v := 1) hx hb dL_law_260 (by decide) ?_
  refine lv_iadd hx hb dL_law_261 ?_
  refine q_top (nI ((5 * i) + 1)) (nI_1 _) ?_
  refine va_sld hx hb hXs hbl hbA hS (vp_in_nI (n := ((5 * i) + 1)) (by omega) (by omega)) dL_law_262 ?_
  refine q_top e1 he1 ?_
  refine lv_aload_n hx hb dL_law_263 rfl (lv_at hl 4 rfl) ?_
  refine lv_iload hx hb dL_law_264 (lv_at hl 0 rfl) ?_
  refine lv_iconst (v := 2) hx hb dL_law_266 (by decide) ?_
  refine lv_iadd hx hb dL_law_267 ?_
  refine q_top (nI ((5 * i) + 2)) (nI_add _ 2) ?_
  refine va_sld hx hb hXs hbl hbA hS (vp_in_nI (n := ((5 * i) + 2)) (by omega) (by omega)) dL_law_268 ?_
  refine q_top e2 he2 ?_
  refine lv_aload_n hx hb dL_law_269 rfl (lv_at hl 4 rfl) ?_
  refine lv_iload hx hb dL_law_270 (lv_at hl 0 rfl) ?_
  refine lv_iconst (v := 3) hx hb dL_law_272 (by decide) ?_
  refine lv_iadd hx hb dL_law_273 ?_
  refine q_top (nI ((5 * i) + 3)) (nI_add _ 3) ?_
  refine va_sld hx hb hXs hbl hbA hS (vp_in_nI (n := ((5 * i) + 3)) (by omega) (by omega)) dL_law_274 ?_
  refine q_top e3 he3 ?_
  refine lv_aload_n hx hb dL_law_275 rfl (lv_at hl 1 rfl) ?_
  by_cases hk : rk_kW e1 e2 e3 cn = 0
  · refine r_swi (rm := ({ frames := 9, cells := 1, slots := 6, locals := 200 } : Room)) (As := [.ref h, .int e1, .int e2, .int e3, .ref o]) (rest := []) (w_weigh_ok l D ad kI kJ [(hm, .inr (1, [.ref rm, .ref fm, .ref sm, .int (nI cn), .int th])), (rm, .inl (kI, 4000, .inl R)), (fm, .inl (kI, 4000, .inl F)), (sm, .inl (kI, 4000, .inl S))] h r1 f1 s1 o R F S cn g e1 e2 e3 hl9 hR hk) SC (vx_cwSW 5 hts (zg_law gL_law_L_weigh) rfl rfl rfl (by decide +kernel) ⟨Nat.le_of_ble_eq_true rfl, Nat.le_of_ble_eq_true rfl⟩) hP hK hD hS hA hX rfl hl.1 rfl (Nat.le_of_ble_eq_true rfl) dL_law_276 ⟨by show cells + 1 ≤ 1047; omega, by show slots + 6 ≤ 32286; omega⟩ (fun H locs hP hD hS => ?_)
    have hP : va_P D vwD ([(h, .inr (0, [.ref r1, .ref f1, .ref s1, .int (nI cn)])), (r1, .inl (kI, 4000, .inl R)), (f1, .inl (kI, 4000, .inl (upd F e1.toNatClampNeg e2))), (s1, .inl (kI, 4000, .inl (upd S e1.toNatClampNeg e3))), (o, .inl (kJ, 1, .inr (.inl (vp_updL g 0 ((F e1.toNatClampNeg).toInt64))))), (hm, .inr (1, [.ref rm, .ref fm, .ref sm, .int (nI cn), .int th])), (rm, .inl (kI, 4000, .inl R)), (fm, .inl (kI, 4000, .inl F)), (sm, .inl (kI, 4000, .inl S))]) H := hP
    have hD : va_D A ([(h, .inr (0, [.ref r1, .ref f1, .ref s1, .int (nI cn)])), (r1, .inl (kI, 4000, .inl R)), (f1, .inl (kI, 4000, .inl (upd F e1.toNatClampNeg e2))), (s1, .inl (kI, 4000, .inl (upd S e1.toNatClampNeg e3))), (o, .inl (kJ, 1, .inr (.inl (vp_updL g 0 ((F e1.toNatClampNeg).toInt64))))), (hm, .inr (1, [.ref rm, .ref fm, .ref sm, .int (nI cn), .int th])), (rm, .inl (kI, 4000, .inl R)), (fm, .inl (kI, 4000, .inl F)), (sm, .inl (kI, 4000, .inl S))]) := hD
    refine lv_istore (lv' := [(5, .int 0), (4, .int (nI (5 * i))), (3, .ref o), (2, .ref hm), (1, .ref h), (0, .ref b)]) hx hb dL_law_279 hl (by decide) rfl (fun ls hl => ?_)
    refine lv_aload_n hx hb dL_law_281 rfl (lv_at hl 3 rfl) ?_
    refine lv_aload_n hx hb dL_law_282 rfl (lv_at hl 5 rfl) ?_
    refine lv_iload hx hb dL_law_283 (lv_at hl 1 rfl) ?_
    refine lv_iconst (v := 1) hx hb dL_law_285 (by decide) ?_
    refine lv_iadd hx hb dL_law_286 ?_
    refine q_top (nI ((5 * i) + 1)) (nI_1 _) ?_
    refine va_sld hx hb hXs hbl hbA hS (vp_in_nI (n := ((5 * i) + 1)) (by omega) (by omega)) dL_law_287 ?_
    refine q_top e1 he1 ?_
    refine lv_aload_n hx hb dL_law_288 rfl (lv_at hl 5 rfl) ?_
    refine lv_iload hx hb dL_law_289 (lv_at hl 1 rfl) ?_
    refine lv_iconst (v := 2) hx hb dL_law_291 (by decide) ?_
    refine lv_iadd hx hb dL_law_292 ?_
    refine q_top (nI ((5 * i) + 2)) (nI_add _ 2) ?_
    refine va_sld hx hb hXs hbl hbA hS (vp_in_nI (n := ((5 * i) + 2)) (by omega) (by omega)) dL_law_293 ?_
    refine q_top e2 he2 ?_
    refine lv_aload_n hx hb dL_law_294 rfl (lv_at hl 5 rfl) ?_
    refine lv_iload hx hb dL_law_295 (lv_at hl 1 rfl) ?_
    refine lv_iconst (v := 3) hx hb dL_law_297 (by decide) ?_
    refine lv_iadd hx hb dL_law_298 ?_
    refine q_top (nI ((5 * i) + 3)) (nI_add _ 3) ?_
    refine va_sld hx hb hXs hbl hbA hS (vp_in_nI (n := ((5 * i) + 3)) (by omega) (by omega)) dL_law_299 ?_
    refine q_top e3 he3 ?_
    refine r_vwi (rm := ({ frames := 8, cells := 1, slots := 6, locals := 180 } : Room)) (As := [.int e1, .int e2, .int e3]) (rest := []) (p_weigh_ok l D ad kI kJ (h, .inr (0, [.ref r1, .ref f1, .ref s1, .int (nI cn)])) (r1, .inl (kI, 4000, .inl R)) (f1, .inl (kI, 4000, .inl (upd F e1.toNatClampNeg e2))) (s1, .inl (kI, 4000, .inl (upd S e1.toNatClampNeg e3))) (o, .inl (kJ, 1, .inr (.inl (vp_updL g 0 ((F e1.toNatClampNeg).toInt64))))) hm rm fm sm R F S cn th e1 e2 e3 hl9 hR hk) SC (vx_cwVW 3 hts gL2_Z_weigh rfl rfl rfl (by decide +kernel) ⟨Nat.le_of_ble_eq_true rfl, Nat.le_of_ble_eq_true rfl⟩) hP hK hD hS hA hX 5 rfl rfl rfl hl.1 rfl (Nat.le_of_ble_eq_true rfl) dL_law_300 ⟨by show (cells + 1) + 1 ≤ 1047; omega, by show (slots + 6) + 6 ≤ 32286; omega⟩ (fun H locs hP hD hS => ?_)
    have hP : va_P D vwD ([(h, .inr (0, [.ref r1, .ref f1, .ref s1, .int (nI cn)])), (r1, .inl (kI, 4000, .inl R)), (f1, .inl (kI, 4000, .inl (upd F e1.toNatClampNeg e2))), (s1, .inl (kI, 4000, .inl (upd S e1.toNatClampNeg e3))), (o, .inl (kJ, 1, .inr (.inl (vp_updL g 0 ((F e1.toNatClampNeg).toInt64))))), (hm, .inr (1, [.ref rm, .ref fm, .ref sm, .int (nI cn), .int 0])), (rm, .inl (kI, 4000, .inl R)), (fm, .inl (kI, 4000, .inl (upd F e1.toNatClampNeg e2))), (sm, .inl (kI, 4000, .inl (upd S e1.toNatClampNeg e3)))]) H := hP
    have hD : va_D A ([(h, .inr (0, [.ref r1, .ref f1, .ref s1, .int (nI cn)])), (r1, .inl (kI, 4000, .inl R)), (f1, .inl (kI, 4000, .inl (upd F e1.toNatClampNeg e2))), (s1, .inl (kI, 4000, .inl (upd S e1.toNatClampNeg e3))), (o, .inl (kJ, 1, .inr (.inl (vp_updL g 0 ((F e1.toNatClampNeg).toInt64))))), (hm, .inr (1, [.ref rm, .ref fm, .ref sm, .int (nI cn), .int 0])), (rm, .inl (kI, 4000, .inl R)), (fm, .inl (kI, 4000, .inl (upd F e1.toNatClampNeg e2))), (sm, .inl (kI, 4000, .inl (upd S e1.toNatClampNeg e3)))]) := hD
    refine lv_istore (lv' := [(6, .int (F e1.toNatClampNeg)), (5, .int 0), (4, .int (nI (5 * i))), (3, .ref o), (2, .ref hm), (1, .ref h), (0, .ref b)]) hx hb dL_law_303 hl (by decide) rfl (fun ls hl => ?_)
    refine lv_aload_n hx hb dL_law_305 rfl (lv_at hl 4 rfl) ?_
    refine r_i (rm := ({ frames := 0, cells := 0, slots := 0, locals := 0 } : Room)) (As := []) (rest := []) (j_tn l D ad kI kJ (h, .inr (0, [.ref r1, .ref f1, .ref s1, .int (nI cn)])) (r1, .inl (kI, 4000, .inl R)) (f1, .inl (kI, 4000, .inl (upd F e1.toNatClampNeg e2))) (s1, .inl (kI, 4000, .inl (upd S e1.toNatClampNeg e3))) (o, .inl (kJ, 1, .inr (.inl (vp_updL g 0 ((F e1.toNatClampNeg).toInt64))))) hm rm fm sm R (upd F e1.toNatClampNeg e2) (upd S e1.toNatClampNeg e3) cn 0) SC (cwV 0 hts gL2_Z_thrown rfl rfl rfl (by decide +kernel) ⟨Nat.le_of_ble_eq_true rfl, Nat.le_of_ble_eq_true rfl⟩) hP hK hD hS hA hX 5 rfl rfl rfl hl.1 rfl (Nat.le_of_ble_eq_true rfl) dL_law_306 ⟨by show ((cells + 1) + 1) + 0 ≤ 1047; omega, by show ((slots + 6) + 6) + 0 ≤ 32286; omega⟩ (fun H locs hP hD hS => ?_)
    have hP : va_P D vwD ([(h, .inr (0, [.ref r1, .ref f1, .ref s1, .int (nI cn)])), (r1, .inl (kI, 4000, .inl R)), (f1, .inl (kI, 4000, .inl (upd F e1.toNatClampNeg e2))), (s1, .inl (kI, 4000, .inl (upd S e1.toNatClampNeg e3))), (o, .inl (kJ, 1, .inr (.inl (vp_updL g 0 ((F e1.toNatClampNeg).toInt64))))), (hm, .inr (1, [.ref rm, .ref fm, .ref sm, .int (nI cn), .int 0])), (rm, .inl (kI, 4000, .inl R)), (fm, .inl (kI, 4000, .inl (upd F e1.toNatClampNeg e2))), (sm, .inl (kI, 4000, .inl (upd S e1.toNatClampNeg e3)))]) H := hP
    have hD : va_D A ([(h, .inr (0, [.ref r1, .ref f1, .ref s1, .int (nI cn)])), (r1, .inl (kI, 4000, .inl R)), (f1, .inl (kI, 4000, .inl (upd F e1.toNatClampNeg e2))), (s1, .inl (kI, 4000, .inl (upd S e1.toNatClampNeg e3))), (o, .inl (kJ, 1, .inr (.inl (vp_updL g 0 ((F e1.toNatClampNeg).toInt64))))), (hm, .inr (1, [.ref rm, .ref fm, .ref sm, .int (nI cn), .int 0])), (rm, .inl (kI, 4000, .inl R)), (fm, .inl (kI, 4000, .inl (upd F e1.toNatClampNeg e2))), (sm, .inl (kI, 4000, .inl (upd S e1.toNatClampNeg e3)))]) := hD
    refine lv_iload hx hb dL_law_309 (lv_at hl 1 rfl) ?_
    refine lv_icmp_eq (tgt := 316) hx hb dL_law_311 (by decide) (fun _ => ?_) (fun h9 => absurd (rfl) h9)
    refine lv_iload hx hb dL_law_316 (lv_at hl 1 rfl) ?_
    refine lv_if_ne (tgt := 333) hx hb dL_law_318 (by decide) (fun h9 => absurd h9 (fun q => q rfl)) (fun _ => ?_)
    refine lv_aload_n hx hb dL_law_321 rfl (lv_at hl 3 rfl) ?_
    refine lv_iconst (v := 0) hx hb dL_law_322 (by decide) ?_
    refine va_lald hx hb hK hP 4 1 rfl rfl (vp_in_nI (n := 0) (N := 1) (by decide) (by decide)) dL_law_323 ?_
    refine q_topl ((F e1.toNatClampNeg).toInt64) (by rw [sb_cl0, pk_uLs]) ?_
    refine lv_iload hx hb dL_law_324 (lv_at hl 0 rfl) ?_
    refine lv_i2l hx hb dL_law_326 rfl ?_
    refine W.lcmp hx hb dL_law_327 ?_
    refine q_top 0 ((lg_cmp_eq _ _).mpr rfl) ?_
    refine lv_if_eq (tgt := 333) hx hb dL_law_328 (by decide) (fun _ => ?_) (fun h9 => absurd (rfl) h9)
    refine lv_goto (tgt := 585) hx hb dL_law_333 (by decide) ?_
    refine W.widen (k := cells + 2) (n := slots + 12) (by omega) (by omega) ?_
    exact kk R (upd F e1.toNatClampNeg e2) (upd S e1.toNatClampNeg e3) cn (vp_updL g 0 ((F e1.toNatClampNeg).toInt64)) 0 H locs ls (hR) hP hD hS (lv_sub hl [2, 3, 4, 5, 6] rfl)
  · refine r_swi (rm := ({ frames := 9, cells := 1, slots := 6, locals := 200 } : Room)) (As := [.ref h, .int e1, .int e2, .int e3, .ref o]) (rest := []) (w_weigh_bad l D ad kI kJ [(hm, .inr (1, [.ref rm, .ref fm, .ref sm, .int (nI cn), .int th])), (rm, .inl (kI, 4000, .inl R)), (fm, .inl (kI, 4000, .inl F)), (sm, .inl (kI, 4000, .inl S))] h r1 f1 s1 o R F S cn g e1 e2 e3 hl9 hR hk) SC (vx_cwSW 5 hts (zg_law gL_law_L_weigh) rfl rfl rfl (by decide +kernel) ⟨Nat.le_of_ble_eq_true rfl, Nat.le_of_ble_eq_true rfl⟩) hP hK hD hS hA hX rfl hl.1 rfl (Nat.le_of_ble_eq_true rfl) dL_law_276 ⟨by show cells + 1 ≤ 1047; omega, by show slots + 6 ≤ 32286; omega⟩ (fun H locs hP hD hS => ?_)
    have hP : va_P D vwD ([(h, .inr (0, [.ref r1, .ref f1, .ref s1, .int (nI cn)])), (r1, .inl (kI, 4000, .inl R)), (f1, .inl (kI, 4000, .inl F)), (s1, .inl (kI, 4000, .inl S)), (o, .inl (kJ, 1, .inr (.inl g))), (hm, .inr (1, [.ref rm, .ref fm, .ref sm, .int (nI cn), .int th])), (rm, .inl (kI, 4000, .inl R)), (fm, .inl (kI, 4000, .inl F)), (sm, .inl (kI, 4000, .inl S))]) H := hP
    have hD : va_D A ([(h, .inr (0, [.ref r1, .ref f1, .ref s1, .int (nI cn)])), (r1, .inl (kI, 4000, .inl R)), (f1, .inl (kI, 4000, .inl F)), (s1, .inl (kI, 4000, .inl S)), (o, .inl (kJ, 1, .inr (.inl g))), (hm, .inr (1, [.ref rm, .ref fm, .ref sm, .int (nI cn), .int th])), (rm, .inl (kI, 4000, .inl R)), (fm, .inl (kI, 4000, .inl F)), (sm, .inl (kI, 4000, .inl S))]) := hD
    refine lv_istore (lv' := [(5, .int (nI (rk_kW e1 e2 e3 cn))), (4, .int (nI (5 * i))), (3, .ref o), (2, .ref hm), (1, .ref h), (0, .ref b)]) hx hb dL_law_279 hl (by decide) rfl (fun ls hl => ?_)
    refine lv_aload_n hx hb dL_law_281 rfl (lv_at hl 3 rfl) ?_
    refine lv_aload_n hx hb dL_law_282 rfl (lv_at hl 5 rfl) ?_
    refine lv_iload hx hb dL_law_283 (lv_at hl 1 rfl) ?_
    refine lv_iconst (v := 1) hx hb dL_law_285 (by decide) ?_
    refine lv_iadd hx hb dL_law_286 ?_
    refine q_top (nI ((5 * i) + 1)) (nI_1 _) ?_
    refine va_sld hx hb hXs hbl hbA hS (vp_in_nI (n := ((5 * i) + 1)) (by omega) (by omega)) dL_law_287 ?_
    refine q_top e1 he1 ?_
    refine lv_aload_n hx hb dL_law_288 rfl (lv_at hl 5 rfl) ?_
    refine lv_iload hx hb dL_law_289 (lv_at hl 1 rfl) ?_
    refine lv_iconst (v := 2) hx hb dL_law_291 (by decide) ?_
    refine lv_iadd hx hb dL_law_292 ?_
    refine q_top (nI ((5 * i) + 2)) (nI_add _ 2) ?_
    refine va_sld hx hb hXs hbl hbA hS (vp_in_nI (n := ((5 * i) + 2)) (by omega) (by omega)) dL_law_293 ?_
    refine q_top e2 he2 ?_
    refine lv_aload_n hx hb dL_law_294 rfl (lv_at hl 5 rfl) ?_
    refine lv_iload hx hb dL_law_295 (lv_at hl 1 rfl) ?_
    refine lv_iconst (v := 3) hx hb dL_law_297 (by decide) ?_
    refine lv_iadd hx hb dL_law_298 ?_
    refine q_top (nI ((5 * i) + 3)) (nI_add _ 3) ?_
    refine va_sld hx hb hXs hbl hbA hS (vp_in_nI (n := ((5 * i) + 3)) (by omega) (by omega)) dL_law_299 ?_
    refine q_top e3 he3 ?_
    refine r_vwi (rm := ({ frames := 8, cells := 1, slots := 6, locals := 180 } : Room)) (As := [.int e1, .int e2, .int e3]) (rest := []) (p_weigh_bad l D ad kI kJ (h, .inr (0, [.ref r1, .ref f1, .ref s1, .int (nI cn)])) (r1, .inl (kI, 4000, .inl R)) (f1, .inl (kI, 4000, .inl F)) (s1, .inl (kI, 4000, .inl S)) (o, .inl (kJ, 1, .inr (.inl g))) hm rm fm sm R F S cn th e1 e2 e3 hl9 hR hk) SC (vx_cwVW 3 hts gL2_Z_weigh rfl rfl rfl (by decide +kernel) ⟨Nat.le_of_ble_eq_true rfl, Nat.le_of_ble_eq_true rfl⟩) hP hK hD hS hA hX 5 rfl rfl rfl hl.1 rfl (Nat.le_of_ble_eq_true rfl) dL_law_300 ⟨by show (cells + 1) + 1 ≤ 1047; omega, by show (slots + 6) + 6 ≤ 32286; omega⟩ (fun H locs hP hD hS => ?_)
    have hP : va_P D vwD ([(h, .inr (0, [.ref r1, .ref f1, .ref s1, .int (nI cn)])), (r1, .inl (kI, 4000, .inl R)), (f1, .inl (kI, 4000, .inl F)), (s1, .inl (kI, 4000, .inl S)), (o, .inl (kJ, 1, .inr (.inl g))), (hm, .inr (1, [.ref rm, .ref fm, .ref sm, .int (nI cn), .int (nI (rk_kW e1 e2 e3 cn))])), (rm, .inl (kI, 4000, .inl R)), (fm, .inl (kI, 4000, .inl F)), (sm, .inl (kI, 4000, .inl S))]) H := hP
    have hD : va_D A ([(h, .inr (0, [.ref r1, .ref f1, .ref s1, .int (nI cn)])), (r1, .inl (kI, 4000, .inl R)), (f1, .inl (kI, 4000, .inl F)), (s1, .inl (kI, 4000, .inl S)), (o, .inl (kJ, 1, .inr (.inl g))), (hm, .inr (1, [.ref rm, .ref fm, .ref sm, .int (nI cn), .int (nI (rk_kW e1 e2 e3 cn))])), (rm, .inl (kI, 4000, .inl R)), (fm, .inl (kI, 4000, .inl F)), (sm, .inl (kI, 4000, .inl S))]) := hD
    refine lv_istore (lv' := [(6, .int 0), (5, .int (nI (rk_kW e1 e2 e3 cn))), (4, .int (nI (5 * i))), (3, .ref o), (2, .ref hm), (1, .ref h), (0, .ref b)]) hx hb dL_law_303 hl (by decide) rfl (fun ls hl => ?_)
    refine lv_aload_n hx hb dL_law_305 rfl (lv_at hl 4 rfl) ?_
    refine r_i (rm := ({ frames := 0, cells := 0, slots := 0, locals := 0 } : Room)) (As := []) (rest := []) (j_tn l D ad kI kJ (h, .inr (0, [.ref r1, .ref f1, .ref s1, .int (nI cn)])) (r1, .inl (kI, 4000, .inl R)) (f1, .inl (kI, 4000, .inl F)) (s1, .inl (kI, 4000, .inl S)) (o, .inl (kJ, 1, .inr (.inl g))) hm rm fm sm R F S cn (nI (rk_kW e1 e2 e3 cn))) SC (cwV 0 hts gL2_Z_thrown rfl rfl rfl (by decide +kernel) ⟨Nat.le_of_ble_eq_true rfl, Nat.le_of_ble_eq_true rfl⟩) hP hK hD hS hA hX 5 rfl rfl rfl hl.1 rfl (Nat.le_of_ble_eq_true rfl) dL_law_306 ⟨by show ((cells + 1) + 1) + 0 ≤ 1047; omega, by show ((slots + 6) + 6) + 0 ≤ 32286; omega⟩ (fun H locs hP hD hS => ?_)
    have hP : va_P D vwD ([(h, .inr (0, [.ref r1, .ref f1, .ref s1, .int (nI cn)])), (r1, .inl (kI, 4000, .inl R)), (f1, .inl (kI, 4000, .inl F)), (s1, .inl (kI, 4000, .inl S)), (o, .inl (kJ, 1, .inr (.inl g))), (hm, .inr (1, [.ref rm, .ref fm, .ref sm, .int (nI cn), .int (nI (rk_kW e1 e2 e3 cn))])), (rm, .inl (kI, 4000, .inl R)), (fm, .inl (kI, 4000, .inl F)), (sm, .inl (kI, 4000, .inl S))]) H := hP
    have hD : va_D A ([(h, .inr (0, [.ref r1, .ref f1, .ref s1, .int (nI cn)])), (r1, .inl (kI, 4000, .inl R)), (f1, .inl (kI, 4000, .inl F)), (s1, .inl (kI, 4000, .inl S)), (o, .inl (kJ, 1, .inr (.inl g))), (hm, .inr (1, [.ref rm, .ref fm, .ref sm, .int (nI cn), .int (nI (rk_kW e1 e2 e3 cn))])), (rm, .inl (kI, 4000, .inl R)), (fm, .inl (kI, 4000, .inl F)), (sm, .inl (kI, 4000, .inl S))]) := hD
    refine lv_iload hx hb dL_law_309 (lv_at hl 1 rfl) ?_
    refine lv_icmp_eq (tgt := 316) hx hb dL_law_311 (by decide) (fun _ => ?_) (fun h9 => absurd (rfl) h9)
    refine lv_iload hx hb dL_law_316 (lv_at hl 1 rfl) ?_
    refine lv_if_ne (tgt := 333) hx hb dL_law_318 (by decide) (fun _ => ?_) (fun h9 => absurd h9 (rk_nz2 (rk_kW_r e1 e2 e3 cn) hk))
    refine lv_goto (tgt := 585) hx hb dL_law_333 (by decide) ?_
    refine W.widen (k := cells + 2) (n := slots + 12) (by omega) (by omega) ?_
    exact kk R F S cn g (nI (rk_kW e1 e2 e3 cn)) H locs ls (hR) hP hD hS (lv_sub hl [2, 3, 4, 5, 6] rfl)
set_option maxHeartbeats 4000000 in
set_option maxRecDepth 100000 in
theorem lc_find {p : Program} {l : Launch} {e : Env} {s : State} {m : MethodId} {below : List Frame} {meth : Method} {c : Code} {b L : Nat} {xs : Nat → Int32} {D : va_G} {ad : Nat → Nat} {kI kJ : ClassId} {A : Nat → Prop} {Q : State → Prop} (C0 : lwC p l s m c b L xs D ad kI kJ A) (h r1 f1 s1 o hm rm fm sm : Nat) (R F S : Nat → Int32) (cn : Nat) (g : Nat → Int64) (th : Int32) (hR : rk_ok R cn) (i : Nat) (hi : 5 * i + 5 ≤ L) (hL : L ≤ 2560) {H : Heap} {locs : List Loc} {cells slots : Nat} (hcc : cells + 2 ≤ 1047) (hss : slots + 12 ≤ 32286) (hP : va_P D vwD (wL h r1 f1 s1 o hm rm fm sm kI kJ R F S cn g th) H) (hD : va_D A (wL h r1 f1 s1 o hm rm fm sm kI kJ R F S cn g th)) (hS : va_S A s.heap H locs) {ls : Array Slot} (hl : lv_has ls 7 [(4, .int (nI (5 * i))), (3, .ref o), (2, .ref hm), (1, .ref h), (0, .ref b)])
    (kk : ∀ (R F S : Nat → Int32) (cn : Nat) (g : Nat → Int64) (th : Int32) (H : Heap) (locs : List Loc) (ls : Array Slot), rk_ok R cn → va_P D vwD (wL h r1 f1 s1 o hm rm fm sm kI kJ R F S cn g th) H → va_D A (wL h r1 f1 s1 o hm rm fm sm kI kJ R F S cn g th) → va_S A s.heap H locs → lv_has ls 7 [(4, .int (nI (5 * i))), (3, .ref o), (2, .ref hm), (1, .ref h), (0, .ref b)] → W p l e room_1 s m #[Value.ref b] below meth c H locs (cells + 2) (slots + 12) Q (F0 m 585 ls [])) : W p l e room_1 s m #[Value.ref b] below meth c H locs cells slots Q (F0 m 336 ls []) := by
  obtain ⟨hx, hb, hml, hown, hts, hXs, hbl, hbA, hA, hK, hX, hl9⟩ := id C0
  have SC : CallFix p m c cL_law 7 s #[Value.ref b] wsL2 RL := ⟨hx, hb, hml, hown, hts⟩
  obtain ⟨e1, he1⟩ : ∃ x, xs (nI (5 * i + 1)).toNatClampNeg = x := ⟨_, rfl⟩
  refine lv_aload_n hx hb dL_law_336 rfl (lv_at hl 3 rfl) ?_
  refine lv_aload_n hx hb dL_law_337 rfl (lv_at hl 4 rfl) ?_
  refine lv_iload hx hb dL_law_338 (lv_at hl 0 rfl) ?_
  refine lv_iconst (v := 1) hx hb dL_law_340 (by decide) ?_
  refine lv_iadd hx hb dL_law_341 ?_
  refine q_top (nI ((5 * i) + 1)) (nI_1 _) ?_
  refine va_sld hx hb hXs hbl hbA hS (vp_in_nI (n := ((5 * i) + 1)) (by omega) (by omega)) dL_law_342 ?_
  refine q_top e1 he1 ?_
  refine lv_aload_n hx hb dL_law_343 rfl (lv_at hl 1 rfl) ?_
  by_cases hk : rk_kD R F e1 cn = 0
  · refine r_swi (rm := ({ frames := 9, cells := 1, slots := 6, locals := 200 } : Room)) (As := [.ref h, .int e1, .ref o]) (rest := []) (w_find_ok l D ad kI kJ [(hm, .inr (1, [.ref rm, .ref fm, .ref sm, .int (nI cn), .int th])), (rm, .inl (kI, 4000, .inl R)), (fm, .inl (kI, 4000, .inl F)), (sm, .inl (kI, 4000, .inl S))] h r1 f1 s1 o R F S cn g e1 hl9 hR hk) SC (vx_cwSW 3 hts (zg_law gL_law_L_find) rfl rfl rfl (by decide +kernel) ⟨Nat.le_of_ble_eq_true rfl, Nat.le_of_ble_eq_true rfl⟩) hP hK hD hS hA hX rfl hl.1 rfl (Nat.le_of_ble_eq_true rfl) dL_law_344 ⟨by show cells + 1 ≤ 1047; omega, by show slots + 6 ≤ 32286; omega⟩ (fun H locs hP hD hS => ?_)
    have hP : va_P D vwD ([(h, .inr (0, [.ref r1, .ref f1, .ref s1, .int (nI cn)])), (r1, .inl (kI, 4000, .inl R)), (f1, .inl (kI, 4000, .inl F)), (s1, .inl (kI, 4000, .inl S)), (o, .inl (kJ, 1, .inr (.inl (vp_updL g 0 ((R (rk_fd R F e1 cn)).toInt64))))), (hm, .inr (1, [.ref rm, .ref fm, .ref sm, .int (nI cn), .int th])), (rm, .inl (kI, 4000, .inl R)), (fm, .inl (kI, 4000, .inl F)), (sm, .inl (kI, 4000, .inl S))]) H := hP
    have hD : va_D A ([(h, .inr (0, [.ref r1, .ref f1, .ref s1, .int (nI cn)])), (r1, .inl (kI, 4000, .inl R)), (f1, .inl (kI, 4000, .inl F)), (s1, .inl (kI, 4000, .inl S)), (o, .inl (kJ, 1, .inr (.inl (vp_updL g 0 ((R (rk_fd R F e1 cn)).toInt64))))), (hm, .inr (1, [.ref rm, .ref fm, .ref sm, .int (nI cn), .int th])), (rm, .inl (kI, 4000, .inl R)), (fm, .inl (kI, 4000, .inl F)), (sm, .inl (kI, 4000, .inl S))]) := hD
    refine lv_istore (lv' := [(5, .int 0), (4, .int (nI (5 * i))), (3, .ref o), (2, .ref hm), (1, .ref h), (0, .ref b)]) hx hb dL_law_347 hl (by decide) rfl (fun ls hl => ?_)
    refine lv_aload_n hx hb dL_law_349 rfl (lv_at hl 3 rfl) ?_
    refine lv_aload_n hx hb dL_law_350 rfl (lv_at hl 5 rfl) ?_
    refine lv_iload hx hb dL_law_351 (lv_at hl 1 rfl) ?_
    refine lv_iconst (v := 1) hx hb dL_law_353 (by decide) ?_
    refine lv_iadd hx hb dL_law_354 ?_
    refine q_top (nI ((5 * i) + 1)) (nI_1 _) ?_
    refine va_sld hx hb hXs hbl hbA hS (vp_in_nI (n := ((5 * i) + 1)) (by omega) (by omega)) dL_law_355 ?_
    refine q_top e1 he1 ?_
    refine r_vwi (rm := ({ frames := 8, cells := 1, slots := 6, locals := 180 } : Room)) (As := [.int e1]) (rest := []) (p_find_ok l D ad kI kJ (h, .inr (0, [.ref r1, .ref f1, .ref s1, .int (nI cn)])) (r1, .inl (kI, 4000, .inl R)) (f1, .inl (kI, 4000, .inl F)) (s1, .inl (kI, 4000, .inl S)) (o, .inl (kJ, 1, .inr (.inl (vp_updL g 0 ((R (rk_fd R F e1 cn)).toInt64))))) hm rm fm sm R F S cn th e1 hl9 hR hk) SC (vx_cwVW 1 hts gL2_Z_find rfl rfl rfl (by decide +kernel) ⟨Nat.le_of_ble_eq_true rfl, Nat.le_of_ble_eq_true rfl⟩) hP hK hD hS hA hX 5 rfl rfl rfl hl.1 rfl (Nat.le_of_ble_eq_true rfl) dL_law_356 ⟨by show (cells + 1) + 1 ≤ 1047; omega, by show (slots + 6) + 6 ≤ 32286; omega⟩ (fun H locs hP hD hS => ?_)
    have hP : va_P D vwD ([(h, .inr (0, [.ref r1, .ref f1, .ref s1, .int (nI cn)])), (r1, .inl (kI, 4000, .inl R)), (f1, .inl (kI, 4000, .inl F)), (s1, .inl (kI, 4000, .inl S)), (o, .inl (kJ, 1, .inr (.inl (vp_updL g 0 ((R (rk_fd R F e1 cn)).toInt64))))), (hm, .inr (1, [.ref rm, .ref fm, .ref sm, .int (nI cn), .int 0])), (rm, .inl (kI, 4000, .inl R)), (fm, .inl (kI, 4000, .inl F)), (sm, .inl (kI, 4000, .inl S))]) H := hP
    have hD : va_D A ([(h, .inr (0, [.ref r1, .ref f1, .ref s1, .int (nI cn)])), (r1, .inl (kI, 4000, .inl R)), (f1, .inl (kI, 4000, .inl F)), (s1, .inl (kI, 4000, .inl S)), (o, .inl (kJ, 1, .inr (.inl (vp_updL g 0 ((R (rk_fd R F e1 cn)).toInt64))))), (hm, .inr (1, [.ref rm, .ref fm, .ref sm, .int (nI cn), .int 0])), (rm, .inl (kI, 4000, .inl R)), (fm, .inl (kI, 4000, .inl F)), (sm, .inl (kI, 4000, .inl S))]) := hD
    refine lv_istore (lv' := [(6, .int (R (rk_fd R F e1 cn))), (5, .int 0), (4, .int (nI (5 * i))), (3, .ref o), (2, .ref hm), (1, .ref h), (0, .ref b)]) hx hb dL_law_359 hl (by decide) rfl (fun ls hl => ?_)
    refine lv_aload_n hx hb dL_law_361 rfl (lv_at hl 4 rfl) ?_
    refine r_i (rm := ({ frames := 0, cells := 0, slots := 0, locals := 0 } : Room)) (As := []) (rest := []) (j_tn l D ad kI kJ (h, .inr (0, [.ref r1, .ref f1, .ref s1, .int (nI cn)])) (r1, .inl (kI, 4000, .inl R)) (f1, .inl (kI, 4000, .inl F)) (s1, .inl (kI, 4000, .inl S)) (o, .inl (kJ, 1, .inr (.inl (vp_updL g 0 ((R (rk_fd R F e1 cn)).toInt64))))) hm rm fm sm R F S cn 0) SC (cwV 0 hts gL2_Z_thrown rfl rfl rfl (by decide +kernel) ⟨Nat.le_of_ble_eq_true rfl, Nat.le_of_ble_eq_true rfl⟩) hP hK hD hS hA hX 5 rfl rfl rfl hl.1 rfl (Nat.le_of_ble_eq_true rfl) dL_law_362 ⟨by show ((cells + 1) + 1) + 0 ≤ 1047; omega, by show ((slots + 6) + 6) + 0 ≤ 32286; omega⟩ (fun H locs hP hD hS => ?_)
    have hP : va_P D vwD ([(h, .inr (0, [.ref r1, .ref f1, .ref s1, .int (nI cn)])), (r1, .inl (kI, 4000, .inl R)), (f1, .inl (kI, 4000, .inl F)), (s1, .inl (kI, 4000, .inl S)), (o, .inl (kJ, 1, .inr (.inl (vp_updL g 0 ((R (rk_fd R F e1 cn)).toInt64))))), (hm, .inr (1, [.ref rm, .ref fm, .ref sm, .int (nI cn), .int 0])), (rm, .inl (kI, 4000, .inl R)), (fm, .inl (kI, 4000, .inl F)), (sm, .inl (kI, 4000, .inl S))]) H := hP
    have hD : va_D A ([(h, .inr (0, [.ref r1, .ref f1, .ref s1, .int (nI cn)])), (r1, .inl (kI, 4000, .inl R)), (f1, .inl (kI, 4000, .inl F)), (s1, .inl (kI, 4000, .inl S)), (o, .inl (kJ, 1, .inr (.inl (vp_updL g 0 ((R (rk_fd R F e1 cn)).toInt64))))), (hm, .inr (1, [.ref rm, .ref fm, .ref sm, .int (nI cn), .int 0])), (rm, .inl (kI, 4000, .inl R)), (fm, .inl (kI, 4000, .inl F)), (sm, .inl (kI, 4000, .inl S))]) := hD
    refine lv_iload hx hb dL_law_365 (lv_at hl 1 rfl) ?_
    refine lv_icmp_eq (tgt := 372) hx hb dL_law_367 (by decide) (fun _ => ?_) (fun h9 => absurd (rfl) h9)
    refine lv_iload hx hb dL_law_372 (lv_at hl 1 rfl) ?_
    refine lv_if_ne (tgt := 389) hx hb dL_law_374 (by decide) (fun h9 => absurd h9 (fun q => q rfl)) (fun _ => ?_)
    refine lv_aload_n hx hb dL_law_377 rfl (lv_at hl 3 rfl) ?_
    refine lv_iconst (v := 0) hx hb dL_law_378 (by decide) ?_
    refine va_lald hx hb hK hP 4 1 rfl rfl (vp_in_nI (n := 0) (N := 1) (by decide) (by decide)) dL_law_379 ?_
    refine q_topl ((R (rk_fd R F e1 cn)).toInt64) (by rw [sb_cl0, pk_uLs]) ?_
    refine lv_iload hx hb dL_law_380 (lv_at hl 0 rfl) ?_
    refine lv_i2l hx hb dL_law_382 rfl ?_
    refine W.lcmp hx hb dL_law_383 ?_
    refine q_top 0 ((lg_cmp_eq _ _).mpr rfl) ?_
    refine lv_if_eq (tgt := 389) hx hb dL_law_384 (by decide) (fun _ => ?_) (fun h9 => absurd (rfl) h9)
    refine lv_goto (tgt := 585) hx hb dL_law_389 (by decide) ?_
    refine W.widen (k := cells + 2) (n := slots + 12) (by omega) (by omega) ?_
    exact kk R F S cn (vp_updL g 0 ((R (rk_fd R F e1 cn)).toInt64)) 0 H locs ls (hR) hP hD hS (lv_sub hl [2, 3, 4, 5, 6] rfl)
  · refine r_swi (rm := ({ frames := 9, cells := 1, slots := 6, locals := 200 } : Room)) (As := [.ref h, .int e1, .ref o]) (rest := []) (w_find_bad l D ad kI kJ [(hm, .inr (1, [.ref rm, .ref fm, .ref sm, .int (nI cn), .int th])), (rm, .inl (kI, 4000, .inl R)), (fm, .inl (kI, 4000, .inl F)), (sm, .inl (kI, 4000, .inl S))] h r1 f1 s1 o R F S cn g e1 hl9 hR hk) SC (vx_cwSW 3 hts (zg_law gL_law_L_find) rfl rfl rfl (by decide +kernel) ⟨Nat.le_of_ble_eq_true rfl, Nat.le_of_ble_eq_true rfl⟩) hP hK hD hS hA hX rfl hl.1 rfl (Nat.le_of_ble_eq_true rfl) dL_law_344 ⟨by show cells + 1 ≤ 1047; omega, by show slots + 6 ≤ 32286; omega⟩ (fun H locs hP hD hS => ?_)
    have hP : va_P D vwD ([(h, .inr (0, [.ref r1, .ref f1, .ref s1, .int (nI cn)])), (r1, .inl (kI, 4000, .inl R)), (f1, .inl (kI, 4000, .inl F)), (s1, .inl (kI, 4000, .inl S)), (o, .inl (kJ, 1, .inr (.inl g))), (hm, .inr (1, [.ref rm, .ref fm, .ref sm, .int (nI cn), .int th])), (rm, .inl (kI, 4000, .inl R)), (fm, .inl (kI, 4000, .inl F)), (sm, .inl (kI, 4000, .inl S))]) H := hP
    have hD : va_D A ([(h, .inr (0, [.ref r1, .ref f1, .ref s1, .int (nI cn)])), (r1, .inl (kI, 4000, .inl R)), (f1, .inl (kI, 4000, .inl F)), (s1, .inl (kI, 4000, .inl S)), (o, .inl (kJ, 1, .inr (.inl g))), (hm, .inr (1, [.ref rm, .ref fm, .ref sm, .int (nI cn), .int th])), (rm, .inl (kI, 4000, .inl R)), (fm, .inl (kI, 4000, .inl F)), (sm, .inl (kI, 4000, .inl S))]) := hD
    refine lv_istore (lv' := [(5, .int 1), (4, .int (nI (5 * i))), (3, .ref o), (2, .ref hm), (1, .ref h), (0, .ref b)]) hx hb dL_law_347 hl (by decide) rfl (fun ls hl => ?_)
    refine lv_aload_n hx hb dL_law_349 rfl (lv_at hl 3 rfl) ?_
    refine lv_aload_n hx hb dL_law_350 rfl (lv_at hl 5 rfl) ?_
    refine lv_iload hx hb dL_law_351 (lv_at hl 1 rfl) ?_
    refine lv_iconst (v := 1) hx hb dL_law_353 (by decide) ?_
    refine lv_iadd hx hb dL_law_354 ?_
    refine q_top (nI ((5 * i) + 1)) (nI_1 _) ?_
    refine va_sld hx hb hXs hbl hbA hS (vp_in_nI (n := ((5 * i) + 1)) (by omega) (by omega)) dL_law_355 ?_
    refine q_top e1 he1 ?_
    refine r_vwi (rm := ({ frames := 8, cells := 1, slots := 6, locals := 180 } : Room)) (As := [.int e1]) (rest := []) (p_find_bad l D ad kI kJ (h, .inr (0, [.ref r1, .ref f1, .ref s1, .int (nI cn)])) (r1, .inl (kI, 4000, .inl R)) (f1, .inl (kI, 4000, .inl F)) (s1, .inl (kI, 4000, .inl S)) (o, .inl (kJ, 1, .inr (.inl g))) hm rm fm sm R F S cn th e1 hl9 hR hk) SC (vx_cwVW 1 hts gL2_Z_find rfl rfl rfl (by decide +kernel) ⟨Nat.le_of_ble_eq_true rfl, Nat.le_of_ble_eq_true rfl⟩) hP hK hD hS hA hX 5 rfl rfl rfl hl.1 rfl (Nat.le_of_ble_eq_true rfl) dL_law_356 ⟨by show (cells + 1) + 1 ≤ 1047; omega, by show (slots + 6) + 6 ≤ 32286; omega⟩ (fun H locs hP hD hS => ?_)
    have hP : va_P D vwD ([(h, .inr (0, [.ref r1, .ref f1, .ref s1, .int (nI cn)])), (r1, .inl (kI, 4000, .inl R)), (f1, .inl (kI, 4000, .inl F)), (s1, .inl (kI, 4000, .inl S)), (o, .inl (kJ, 1, .inr (.inl g))), (hm, .inr (1, [.ref rm, .ref fm, .ref sm, .int (nI cn), .int (1)])), (rm, .inl (kI, 4000, .inl R)), (fm, .inl (kI, 4000, .inl F)), (sm, .inl (kI, 4000, .inl S))]) H := hP
    have hD : va_D A ([(h, .inr (0, [.ref r1, .ref f1, .ref s1, .int (nI cn)])), (r1, .inl (kI, 4000, .inl R)), (f1, .inl (kI, 4000, .inl F)), (s1, .inl (kI, 4000, .inl S)), (o, .inl (kJ, 1, .inr (.inl g))), (hm, .inr (1, [.ref rm, .ref fm, .ref sm, .int (nI cn), .int (1)])), (rm, .inl (kI, 4000, .inl R)), (fm, .inl (kI, 4000, .inl F)), (sm, .inl (kI, 4000, .inl S))]) := hD
    refine lv_istore (lv' := [(6, .int 0), (5, .int 1), (4, .int (nI (5 * i))), (3, .ref o), (2, .ref hm), (1, .ref h), (0, .ref b)]) hx hb dL_law_359 hl (by decide) rfl (fun ls hl => ?_)
    refine lv_aload_n hx hb dL_law_361 rfl (lv_at hl 4 rfl) ?_
    refine r_i (rm := ({ frames := 0, cells := 0, slots := 0, locals := 0 } : Room)) (As := []) (rest := []) (j_tn l D ad kI kJ (h, .inr (0, [.ref r1, .ref f1, .ref s1, .int (nI cn)])) (r1, .inl (kI, 4000, .inl R)) (f1, .inl (kI, 4000, .inl F)) (s1, .inl (kI, 4000, .inl S)) (o, .inl (kJ, 1, .inr (.inl g))) hm rm fm sm R F S cn (1)) SC (cwV 0 hts gL2_Z_thrown rfl rfl rfl (by decide +kernel) ⟨Nat.le_of_ble_eq_true rfl, Nat.le_of_ble_eq_true rfl⟩) hP hK hD hS hA hX 5 rfl rfl rfl hl.1 rfl (Nat.le_of_ble_eq_true rfl) dL_law_362 ⟨by show ((cells + 1) + 1) + 0 ≤ 1047; omega, by show ((slots + 6) + 6) + 0 ≤ 32286; omega⟩ (fun H locs hP hD hS => ?_)
    have hP : va_P D vwD ([(h, .inr (0, [.ref r1, .ref f1, .ref s1, .int (nI cn)])), (r1, .inl (kI, 4000, .inl R)), (f1, .inl (kI, 4000, .inl F)), (s1, .inl (kI, 4000, .inl S)), (o, .inl (kJ, 1, .inr (.inl g))), (hm, .inr (1, [.ref rm, .ref fm, .ref sm, .int (nI cn), .int (1)])), (rm, .inl (kI, 4000, .inl R)), (fm, .inl (kI, 4000, .inl F)), (sm, .inl (kI, 4000, .inl S))]) H := hP
    have hD : va_D A ([(h, .inr (0, [.ref r1, .ref f1, .ref s1, .int (nI cn)])), (r1, .inl (kI, 4000, .inl R)), (f1, .inl (kI, 4000, .inl F)), (s1, .inl (kI, 4000, .inl S)), (o, .inl (kJ, 1, .inr (.inl g))), (hm, .inr (1, [.ref rm, .ref fm, .ref sm, .int (nI cn), .int (1)])), (rm, .inl (kI, 4000, .inl R)), (fm, .inl (kI, 4000, .inl F)), (sm, .inl (kI, 4000, .inl S))]) := hD
    refine lv_iload hx hb dL_law_365 (lv_at hl 1 rfl) ?_
    refine lv_icmp_eq (tgt := 372) hx hb dL_law_367 (by decide) (fun _ => ?_) (fun h9 => absurd (rfl) h9)
    refine lv_iload hx hb dL_law_372 (lv_at hl 1 rfl) ?_
    refine lv_if_ne (tgt := 389) hx hb dL_law_374 (by decide) (fun _ => ?_) (fun h9 => absurd h9 ((by decide : ¬ (1 : Int32) = 0)))
    refine lv_goto (tgt := 585) hx hb dL_law_389 (by decide) ?_
    refine W.widen (k := cells + 2) (n := slots + 12) (by omega) (by omega) ?_
    exact kk R F S cn g (1) H locs ls (hR) hP hD hS (lv_sub hl [2, 3, 4, 5, 6] rfl)
set_option maxHeartbeats 4000000 in
set_option maxRecDepth 100000 in
theorem lc_sum {p : Program} {l : Launch} {e : Env} {s : State} {m : MethodId} {below : List Frame} {meth : Method} {c : Code} {b L : Nat} {xs : Nat → Int32} {D : va_G} {ad : Nat → Nat} {kI kJ : ClassId} {A : Nat → Prop} {Q : State → Prop} (C0 : lwC p l s m c b L xs D ad kI kJ A) (h r1 f1 s1 o hm rm fm sm : Nat) (R F S : Nat → Int32) (cn : Nat) (g : Nat → Int64) (th : Int32) (hR : rk_ok R cn) (i : Nat) (hi : 5 * i + 5 ≤ L) (hL : L ≤ 2560) {H : Heap} {locs : List Loc} {cells slots : Nat} (hcc : cells + 2 ≤ 1047) (hss : slots + 12 ≤ 32286) (hP : va_P D vwD (wL h r1 f1 s1 o hm rm fm sm kI kJ R F S cn g th) H) (hD : va_D A (wL h r1 f1 s1 o hm rm fm sm kI kJ R F S cn g th)) (hS : va_S A s.heap H locs) {ls : Array Slot} (hl : lv_has ls 7 [(4, .int (nI (5 * i))), (3, .ref o), (2, .ref hm), (1, .ref h), (0, .ref b)])
    (kk : ∀ (R F S : Nat → Int32) (cn : Nat) (g : Nat → Int64) (th : Int32) (H : Heap) (locs : List Loc) (ls : Array Slot), rk_ok R cn → va_P D vwD (wL h r1 f1 s1 o hm rm fm sm kI kJ R F S cn g th) H → va_D A (wL h r1 f1 s1 o hm rm fm sm kI kJ R F S cn g th) → va_S A s.heap H locs → lv_has ls 7 [(4, .int (nI (5 * i))), (3, .ref o), (2, .ref hm), (1, .ref h), (0, .ref b)] → W p l e room_1 s m #[Value.ref b] below meth c H locs (cells + 2) (slots + 12) Q (F0 m 585 ls [])) : W p l e room_1 s m #[Value.ref b] below meth c H locs cells slots Q (F0 m 392 ls []) := by
  obtain ⟨hx, hb, hml, hown, hts, hXs, hbl, hbA, hA, hK, hX, hl9⟩ := id C0
  have SC : CallFix p m c cL_law 7 s #[Value.ref b] wsL2 RL := ⟨hx, hb, hml, hown, hts⟩
  obtain ⟨e1, he1⟩ : ∃ x, xs (nI (5 * i + 1)).toNatClampNeg = x := ⟨_, rfl⟩
  obtain ⟨e2, he2⟩ : ∃ x, xs (nI (5 * i + 2)).toNatClampNeg = x := ⟨_, rfl⟩
  refine lv_aload_n hx hb dL_law_392 rfl (lv_at hl 3 rfl) ?_
  refine lv_aload_n hx hb dL_law_393 rfl (lv_at hl 4 rfl) ?_
  refine lv_iload hx hb dL_law_394 (lv_at hl 0 rfl) ?_
  refine lv_iconst (v := 1) hx hb dL_law_396 (by decide) ?_
  refine lv_iadd hx hb dL_law_397 ?_
  refine q_top (nI ((5 * i) + 1)) (nI_1 _) ?_
  refine va_sld hx hb hXs hbl hbA hS (vp_in_nI (n := ((5 * i) + 1)) (by omega) (by omega)) dL_law_398 ?_
  refine q_top e1 he1 ?_
  refine lv_aload_n hx hb dL_law_399 rfl (lv_at hl 4 rfl) ?_
  refine lv_iload hx hb dL_law_400 (lv_at hl 0 rfl) ?_
  refine lv_iconst (v := 2) hx hb dL_law_402 (by decide) ?_
  refine lv_iadd hx hb dL_law_403 ?_
  refine q_top (nI ((5 * i) + 2)) (nI_add _ 2) ?_
  refine va_sld hx hb hXs hbl hbA hS (vp_in_nI (n := ((5 * i) + 2)) (by omega) (by omega)) dL_law_404 ?_
  refine q_top e2 he2 ?_
  refine lv_aload_n hx hb dL_law_405 rfl (lv_at hl 1 rfl) ?_
  by_cases hk : rk_kS e1 e2 cn = 0
  · refine r_swi (rm := ({ frames := 9, cells := 1, slots := 6, locals := 200 } : Room)) (As := [.ref h, .int e1, .int e2, .ref o]) (rest := []) (w_sum_ok l D ad kI kJ [(hm, .inr (1, [.ref rm, .ref fm, .ref sm, .int (nI cn), .int th])), (rm, .inl (kI, 4000, .inl R)), (fm, .inl (kI, 4000, .inl F)), (sm, .inl (kI, 4000, .inl S))] h r1 f1 s1 o R F S cn g e1 e2 hl9 hR hk) SC (vx_cwSW 4 hts (zg_law gL_law_L_sum) rfl rfl rfl (by decide +kernel) ⟨Nat.le_of_ble_eq_true rfl, Nat.le_of_ble_eq_true rfl⟩) hP hK hD hS hA hX rfl hl.1 rfl (Nat.le_of_ble_eq_true rfl) dL_law_406 ⟨by show cells + 1 ≤ 1047; omega, by show slots + 6 ≤ 32286; omega⟩ (fun H locs hP hD hS => ?_)
    have hP : va_P D vwD ([(h, .inr (0, [.ref r1, .ref f1, .ref s1, .int (nI cn)])), (r1, .inl (kI, 4000, .inl R)), (f1, .inl (kI, 4000, .inl F)), (s1, .inl (kI, 4000, .inl S)), (o, .inl (kJ, 1, .inr (.inl (vp_updL g 0 ((rk_sm R (if e2 = 0 then F else S) (if e1 = -1 then cn else rk_pl R e1 cn)).toInt64))))), (hm, .inr (1, [.ref rm, .ref fm, .ref sm, .int (nI cn), .int th])), (rm, .inl (kI, 4000, .inl R)), (fm, .inl (kI, 4000, .inl F)), (sm, .inl (kI, 4000, .inl S))]) H := hP
    have hD : va_D A ([(h, .inr (0, [.ref r1, .ref f1, .ref s1, .int (nI cn)])), (r1, .inl (kI, 4000, .inl R)), (f1, .inl (kI, 4000, .inl F)), (s1, .inl (kI, 4000, .inl S)), (o, .inl (kJ, 1, .inr (.inl (vp_updL g 0 ((rk_sm R (if e2 = 0 then F else S) (if e1 = -1 then cn else rk_pl R e1 cn)).toInt64))))), (hm, .inr (1, [.ref rm, .ref fm, .ref sm, .int (nI cn), .int th])), (rm, .inl (kI, 4000, .inl R)), (fm, .inl (kI, 4000, .inl F)), (sm, .inl (kI, 4000, .inl S))]) := hD
    refine lv_istore (lv' := [(5, .int 0), (4, .int (nI (5 * i))), (3, .ref o), (2, .ref hm), (1, .ref h), (0, .ref b)]) hx hb dL_law_409 hl (by decide) rfl (fun ls hl => ?_)
    refine lv_aload_n hx hb dL_law_411 rfl (lv_at hl 3 rfl) ?_
    refine lv_aload_n hx hb dL_law_412 rfl (lv_at hl 5 rfl) ?_
    refine lv_iload hx hb dL_law_413 (lv_at hl 1 rfl) ?_
    refine lv_iconst (v := 1) hx hb dL_law_415 (by decide) ?_
    refine lv_iadd hx hb dL_law_416 ?_
    refine q_top (nI ((5 * i) + 1)) (nI_1 _) ?_
    refine va_sld hx hb hXs hbl hbA hS (vp_in_nI (n := ((5 * i) + 1)) (by omega) (by omega)) dL_law_417 ?_
    refine q_top e1 he1 ?_
    refine lv_aload_n hx hb dL_law_418 rfl (lv_at hl 5 rfl) ?_
    refine lv_iload hx hb dL_law_419 (lv_at hl 1 rfl) ?_
    refine lv_iconst (v := 2) hx hb dL_law_421 (by decide) ?_
    refine lv_iadd hx hb dL_law_422 ?_
    refine q_top (nI ((5 * i) + 2)) (nI_add _ 2) ?_
    refine va_sld hx hb hXs hbl hbA hS (vp_in_nI (n := ((5 * i) + 2)) (by omega) (by omega)) dL_law_423 ?_
    refine q_top e2 he2 ?_
    refine r_vwi (rm := ({ frames := 8, cells := 1, slots := 6, locals := 180 } : Room)) (As := [.int e1, .int e2]) (rest := []) (p_sum_ok l D ad kI kJ (h, .inr (0, [.ref r1, .ref f1, .ref s1, .int (nI cn)])) (r1, .inl (kI, 4000, .inl R)) (f1, .inl (kI, 4000, .inl F)) (s1, .inl (kI, 4000, .inl S)) (o, .inl (kJ, 1, .inr (.inl (vp_updL g 0 ((rk_sm R (if e2 = 0 then F else S) (if e1 = -1 then cn else rk_pl R e1 cn)).toInt64))))) hm rm fm sm R F S cn th e1 e2 hl9 hR hk) SC (vx_cwVW 2 hts gL2_Z_sum rfl rfl rfl (by decide +kernel) ⟨Nat.le_of_ble_eq_true rfl, Nat.le_of_ble_eq_true rfl⟩) hP hK hD hS hA hX 5 rfl rfl rfl hl.1 rfl (Nat.le_of_ble_eq_true rfl) dL_law_424 ⟨by show (cells + 1) + 1 ≤ 1047; omega, by show (slots + 6) + 6 ≤ 32286; omega⟩ (fun H locs hP hD hS => ?_)
    have hP : va_P D vwD ([(h, .inr (0, [.ref r1, .ref f1, .ref s1, .int (nI cn)])), (r1, .inl (kI, 4000, .inl R)), (f1, .inl (kI, 4000, .inl F)), (s1, .inl (kI, 4000, .inl S)), (o, .inl (kJ, 1, .inr (.inl (vp_updL g 0 ((rk_sm R (if e2 = 0 then F else S) (if e1 = -1 then cn else rk_pl R e1 cn)).toInt64))))), (hm, .inr (1, [.ref rm, .ref fm, .ref sm, .int (nI cn), .int 0])), (rm, .inl (kI, 4000, .inl R)), (fm, .inl (kI, 4000, .inl F)), (sm, .inl (kI, 4000, .inl S))]) H := hP
    have hD : va_D A ([(h, .inr (0, [.ref r1, .ref f1, .ref s1, .int (nI cn)])), (r1, .inl (kI, 4000, .inl R)), (f1, .inl (kI, 4000, .inl F)), (s1, .inl (kI, 4000, .inl S)), (o, .inl (kJ, 1, .inr (.inl (vp_updL g 0 ((rk_sm R (if e2 = 0 then F else S) (if e1 = -1 then cn else rk_pl R e1 cn)).toInt64))))), (hm, .inr (1, [.ref rm, .ref fm, .ref sm, .int (nI cn), .int 0])), (rm, .inl (kI, 4000, .inl R)), (fm, .inl (kI, 4000, .inl F)), (sm, .inl (kI, 4000, .inl S))]) := hD
    refine lv_istore (lv' := [(6, .int (rk_sm R (if e2 = 0 then F else S) (if e1 = -1 then cn else rk_pl R e1 cn))), (5, .int 0), (4, .int (nI (5 * i))), (3, .ref o), (2, .ref hm), (1, .ref h), (0, .ref b)]) hx hb dL_law_427 hl (by decide) rfl (fun ls hl => ?_)
    refine lv_aload_n hx hb dL_law_429 rfl (lv_at hl 4 rfl) ?_
    refine r_i (rm := ({ frames := 0, cells := 0, slots := 0, locals := 0 } : Room)) (As := []) (rest := []) (j_tn l D ad kI kJ (h, .inr (0, [.ref r1, .ref f1, .ref s1, .int (nI cn)])) (r1, .inl (kI, 4000, .inl R)) (f1, .inl (kI, 4000, .inl F)) (s1, .inl (kI, 4000, .inl S)) (o, .inl (kJ, 1, .inr (.inl (vp_updL g 0 ((rk_sm R (if e2 = 0 then F else S) (if e1 = -1 then cn else rk_pl R e1 cn)).toInt64))))) hm rm fm sm R F S cn 0) SC (cwV 0 hts gL2_Z_thrown rfl rfl rfl (by decide +kernel) ⟨Nat.le_of_ble_eq_true rfl, Nat.le_of_ble_eq_true rfl⟩) hP hK hD hS hA hX 5 rfl rfl rfl hl.1 rfl (Nat.le_of_ble_eq_true rfl) dL_law_430 ⟨by show ((cells + 1) + 1) + 0 ≤ 1047; omega, by show ((slots + 6) + 6) + 0 ≤ 32286; omega⟩ (fun H locs hP hD hS => ?_)
    have hP : va_P D vwD ([(h, .inr (0, [.ref r1, .ref f1, .ref s1, .int (nI cn)])), (r1, .inl (kI, 4000, .inl R)), (f1, .inl (kI, 4000, .inl F)), (s1, .inl (kI, 4000, .inl S)), (o, .inl (kJ, 1, .inr (.inl (vp_updL g 0 ((rk_sm R (if e2 = 0 then F else S) (if e1 = -1 then cn else rk_pl R e1 cn)).toInt64))))), (hm, .inr (1, [.ref rm, .ref fm, .ref sm, .int (nI cn), .int 0])), (rm, .inl (kI, 4000, .inl R)), (fm, .inl (kI, 4000, .inl F)), (sm, .inl (kI, 4000, .inl S))]) H := hP
    have hD : va_D A ([(h, .inr (0, [.ref r1, .ref f1, .ref s1, .int (nI cn)])), (r1, .inl (kI, 4000, .inl R)), (f1, .inl (kI, 4000, .inl F)), (s1, .inl (kI, 4000, .inl S)), (o, .inl (kJ, 1, .inr (.inl (vp_updL g 0 ((rk_sm R (if e2 = 0 then F else S) (if e1 = -1 then cn else rk_pl R e1 cn)).toInt64))))), (hm, .inr (1, [.ref rm, .ref fm, .ref sm, .int (nI cn), .int 0])), (rm, .inl (kI, 4000, .inl R)), (fm, .inl (kI, 4000, .inl F)), (sm, .inl (kI, 4000, .inl S))]) := hD
    refine lv_iload hx hb dL_law_433 (lv_at hl 1 rfl) ?_
    refine lv_icmp_eq (tgt := 440) hx hb dL_law_435 (by decide) (fun _ => ?_) (fun h9 => absurd (rfl) h9)
    refine lv_iload hx hb dL_law_440 (lv_at hl 1 rfl) ?_
    refine lv_if_ne (tgt := 457) hx hb dL_law_442 (by decide) (fun h9 => absurd h9 (fun q => q rfl)) (fun _ => ?_)
    refine lv_aload_n hx hb dL_law_445 rfl (lv_at hl 3 rfl) ?_
    refine lv_iconst (v := 0) hx hb dL_law_446 (by decide) ?_
    refine va_lald hx hb hK hP 4 1 rfl rfl (vp_in_nI (n := 0) (N := 1) (by decide) (by decide)) dL_law_447 ?_
    refine q_topl ((rk_sm R (if e2 = 0 then F else S) (if e1 = -1 then cn else rk_pl R e1 cn)).toInt64) (by rw [sb_cl0, pk_uLs]) ?_
    refine lv_iload hx hb dL_law_448 (lv_at hl 0 rfl) ?_
    refine lv_i2l hx hb dL_law_450 rfl ?_
    refine W.lcmp hx hb dL_law_451 ?_
    refine q_top 0 ((lg_cmp_eq _ _).mpr rfl) ?_
    refine lv_if_eq (tgt := 457) hx hb dL_law_452 (by decide) (fun _ => ?_) (fun h9 => absurd (rfl) h9)
    refine lv_goto (tgt := 585) hx hb dL_law_457 (by decide) ?_
    refine W.widen (k := cells + 2) (n := slots + 12) (by omega) (by omega) ?_
    exact kk R F S cn (vp_updL g 0 ((rk_sm R (if e2 = 0 then F else S) (if e1 = -1 then cn else rk_pl R e1 cn)).toInt64)) 0 H locs ls (hR) hP hD hS (lv_sub hl [2, 3, 4, 5, 6] rfl)
  · refine r_swi (rm := ({ frames := 9, cells := 1, slots := 6, locals := 200 } : Room)) (As := [.ref h, .int e1, .int e2, .ref o]) (rest := []) (w_sum_bad l D ad kI kJ [(hm, .inr (1, [.ref rm, .ref fm, .ref sm, .int (nI cn), .int th])), (rm, .inl (kI, 4000, .inl R)), (fm, .inl (kI, 4000, .inl F)), (sm, .inl (kI, 4000, .inl S))] h r1 f1 s1 o R F S cn g e1 e2 hl9 hR hk) SC (vx_cwSW 4 hts (zg_law gL_law_L_sum) rfl rfl rfl (by decide +kernel) ⟨Nat.le_of_ble_eq_true rfl, Nat.le_of_ble_eq_true rfl⟩) hP hK hD hS hA hX rfl hl.1 rfl (Nat.le_of_ble_eq_true rfl) dL_law_406 ⟨by show cells + 1 ≤ 1047; omega, by show slots + 6 ≤ 32286; omega⟩ (fun H locs hP hD hS => ?_)
    have hP : va_P D vwD ([(h, .inr (0, [.ref r1, .ref f1, .ref s1, .int (nI cn)])), (r1, .inl (kI, 4000, .inl R)), (f1, .inl (kI, 4000, .inl F)), (s1, .inl (kI, 4000, .inl S)), (o, .inl (kJ, 1, .inr (.inl g))), (hm, .inr (1, [.ref rm, .ref fm, .ref sm, .int (nI cn), .int th])), (rm, .inl (kI, 4000, .inl R)), (fm, .inl (kI, 4000, .inl F)), (sm, .inl (kI, 4000, .inl S))]) H := hP
    have hD : va_D A ([(h, .inr (0, [.ref r1, .ref f1, .ref s1, .int (nI cn)])), (r1, .inl (kI, 4000, .inl R)), (f1, .inl (kI, 4000, .inl F)), (s1, .inl (kI, 4000, .inl S)), (o, .inl (kJ, 1, .inr (.inl g))), (hm, .inr (1, [.ref rm, .ref fm, .ref sm, .int (nI cn), .int th])), (rm, .inl (kI, 4000, .inl R)), (fm, .inl (kI, 4000, .inl F)), (sm, .inl (kI, 4000, .inl S))]) := hD
    refine lv_istore (lv' := [(5, .int (nI (rk_kS e1 e2 cn))), (4, .int (nI (5 * i))), (3, .ref o), (2, .ref hm), (1, .ref h), (0, .ref b)]) hx hb dL_law_409 hl (by decide) rfl (fun ls hl => ?_)
    refine lv_aload_n hx hb dL_law_411 rfl (lv_at hl 3 rfl) ?_
    refine lv_aload_n hx hb dL_law_412 rfl (lv_at hl 5 rfl) ?_
    refine lv_iload hx hb dL_law_413 (lv_at hl 1 rfl) ?_
    refine lv_iconst (v := 1) hx hb dL_law_415 (by decide) ?_
    refine lv_iadd hx hb dL_law_416 ?_
    refine q_top (nI ((5 * i) + 1)) (nI_1 _) ?_
    refine va_sld hx hb hXs hbl hbA hS (vp_in_nI (n := ((5 * i) + 1)) (by omega) (by omega)) dL_law_417 ?_
    refine q_top e1 he1 ?_
    refine lv_aload_n hx hb dL_law_418 rfl (lv_at hl 5 rfl) ?_
    refine lv_iload hx hb dL_law_419 (lv_at hl 1 rfl) ?_
    refine lv_iconst (v := 2) hx hb dL_law_421 (by decide) ?_
    refine lv_iadd hx hb dL_law_422 ?_
    refine q_top (nI ((5 * i) + 2)) (nI_add _ 2) ?_
    refine va_sld hx hb hXs hbl hbA hS (vp_in_nI (n := ((5 * i) + 2)) (by omega) (by omega)) dL_law_423 ?_
    refine q_top e2 he2 ?_
    refine r_vwi (rm := ({ frames := 8, cells := 1, slots := 6, locals := 180 } : Room)) (As := [.int e1, .int e2]) (rest := []) (p_sum_bad l D ad kI kJ (h, .inr (0, [.ref r1, .ref f1, .ref s1, .int (nI cn)])) (r1, .inl (kI, 4000, .inl R)) (f1, .inl (kI, 4000, .inl F)) (s1, .inl (kI, 4000, .inl S)) (o, .inl (kJ, 1, .inr (.inl g))) hm rm fm sm R F S cn th e1 e2 hl9 hR hk) SC (vx_cwVW 2 hts gL2_Z_sum rfl rfl rfl (by decide +kernel) ⟨Nat.le_of_ble_eq_true rfl, Nat.le_of_ble_eq_true rfl⟩) hP hK hD hS hA hX 5 rfl rfl rfl hl.1 rfl (Nat.le_of_ble_eq_true rfl) dL_law_424 ⟨by show (cells + 1) + 1 ≤ 1047; omega, by show (slots + 6) + 6 ≤ 32286; omega⟩ (fun H locs hP hD hS => ?_)
    have hP : va_P D vwD ([(h, .inr (0, [.ref r1, .ref f1, .ref s1, .int (nI cn)])), (r1, .inl (kI, 4000, .inl R)), (f1, .inl (kI, 4000, .inl F)), (s1, .inl (kI, 4000, .inl S)), (o, .inl (kJ, 1, .inr (.inl g))), (hm, .inr (1, [.ref rm, .ref fm, .ref sm, .int (nI cn), .int (nI (rk_kS e1 e2 cn))])), (rm, .inl (kI, 4000, .inl R)), (fm, .inl (kI, 4000, .inl F)), (sm, .inl (kI, 4000, .inl S))]) H := hP
    have hD : va_D A ([(h, .inr (0, [.ref r1, .ref f1, .ref s1, .int (nI cn)])), (r1, .inl (kI, 4000, .inl R)), (f1, .inl (kI, 4000, .inl F)), (s1, .inl (kI, 4000, .inl S)), (o, .inl (kJ, 1, .inr (.inl g))), (hm, .inr (1, [.ref rm, .ref fm, .ref sm, .int (nI cn), .int (nI (rk_kS e1 e2 cn))])), (rm, .inl (kI, 4000, .inl R)), (fm, .inl (kI, 4000, .inl F)), (sm, .inl (kI, 4000, .inl S))]) := hD
    refine lv_istore (lv' := [(6, .int 0), (5, .int (nI (rk_kS e1 e2 cn))), (4, .int (nI (5 * i))), (3, .ref o), (2, .ref hm), (1, .ref h), (0, .ref b)]) hx hb dL_law_427 hl (by decide) rfl (fun ls hl => ?_)
    refine lv_aload_n hx hb dL_law_429 rfl (lv_at hl 4 rfl) ?_
    refine r_i (rm := ({ frames := 0, cells := 0, slots := 0, locals := 0 } : Room)) (As := []) (rest := []) (j_tn l D ad kI kJ (h, .inr (0, [.ref r1, .ref f1, .ref s1, .int (nI cn)])) (r1, .inl (kI, 4000, .inl R)) (f1, .inl (kI, 4000, .inl F)) (s1, .inl (kI, 4000, .inl S)) (o, .inl (kJ, 1, .inr (.inl g))) hm rm fm sm R F S cn (nI (rk_kS e1 e2 cn))) SC (cwV 0 hts gL2_Z_thrown rfl rfl rfl (by decide +kernel) ⟨Nat.le_of_ble_eq_true rfl, Nat.le_of_ble_eq_true rfl⟩) hP hK hD hS hA hX 5 rfl rfl rfl hl.1 rfl (Nat.le_of_ble_eq_true rfl) dL_law_430 ⟨by show ((cells + 1) + 1) + 0 ≤ 1047; omega, by show ((slots + 6) + 6) + 0 ≤ 32286; omega⟩ (fun H locs hP hD hS => ?_)
    have hP : va_P D vwD ([(h, .inr (0, [.ref r1, .ref f1, .ref s1, .int (nI cn)])), (r1, .inl (kI, 4000, .inl R)), (f1, .inl (kI, 4000, .inl F)), (s1, .inl (kI, 4000, .inl S)), (o, .inl (kJ, 1, .inr (.inl g))), (hm, .inr (1, [.ref rm, .ref fm, .ref sm, .int (nI cn), .int (nI (rk_kS e1 e2 cn))])), (rm, .inl (kI, 4000, .inl R)), (fm, .inl (kI, 4000, .inl F)), (sm, .inl (kI, 4000, .inl S))]) H := hP
    have hD : va_D A ([(h, .inr (0, [.ref r1, .ref f1, .ref s1, .int (nI cn)])), (r1, .inl (kI, 4000, .inl R)), (f1, .inl (kI, 4000, .inl F)), (s1, .inl (kI, 4000, .inl S)), (o, .inl (kJ, 1, .inr (.inl g))), (hm, .inr (1, [.ref rm, .ref fm, .ref sm, .int (nI cn), .int (nI (rk_kS e1 e2 cn))])), (rm, .inl (kI, 4000, .inl R)), (fm, .inl (kI, 4000, .inl F)), (sm, .inl (kI, 4000, .inl S))]) := hD
    refine lv_iload hx hb dL_law_433 (lv_at hl 1 rfl) ?_
    refine lv_icmp_eq (tgt := 440) hx hb dL_law_435 (by decide) (fun _ => ?_) (fun h9 => absurd (rfl) h9)
    refine lv_iload hx hb dL_law_440 (lv_at hl 1 rfl) ?_
    refine lv_if_ne (tgt := 457) hx hb dL_law_442 (by decide) (fun _ => ?_) (fun h9 => absurd h9 (rk_nz2 (rk_kS_r e1 e2 cn) hk))
    refine lv_goto (tgt := 585) hx hb dL_law_457 (by decide) ?_
    refine W.widen (k := cells + 2) (n := slots + 12) (by omega) (by omega) ?_
    exact kk R F S cn g (nI (rk_kS e1 e2 cn)) H locs ls (hR) hP hD hS (lv_sub hl [2, 3, 4, 5, 6] rfl)
set_option maxHeartbeats 4000000 in
set_option maxRecDepth 100000 in
theorem lc_next {p : Program} {l : Launch} {e : Env} {s : State} {m : MethodId} {below : List Frame} {meth : Method} {c : Code} {b L : Nat} {xs : Nat → Int32} {D : va_G} {ad : Nat → Nat} {kI kJ : ClassId} {A : Nat → Prop} {Q : State → Prop} (C0 : lwC p l s m c b L xs D ad kI kJ A) (h r1 f1 s1 o hm rm fm sm : Nat) (R F S : Nat → Int32) (cn : Nat) (g : Nat → Int64) (th : Int32) (hR : rk_ok R cn) (i : Nat) (hi : 5 * i + 5 ≤ L) (hL : L ≤ 2560) {H : Heap} {locs : List Loc} {cells slots : Nat} (hcc : cells + 2 ≤ 1047) (hss : slots + 12 ≤ 32286) (hP : va_P D vwD (wL h r1 f1 s1 o hm rm fm sm kI kJ R F S cn g th) H) (hD : va_D A (wL h r1 f1 s1 o hm rm fm sm kI kJ R F S cn g th)) (hS : va_S A s.heap H locs) {ls : Array Slot} (hl : lv_has ls 7 [(4, .int (nI (5 * i))), (3, .ref o), (2, .ref hm), (1, .ref h), (0, .ref b)])
    (kk : ∀ (R F S : Nat → Int32) (cn : Nat) (g : Nat → Int64) (th : Int32) (H : Heap) (locs : List Loc) (ls : Array Slot), rk_ok R cn → va_P D vwD (wL h r1 f1 s1 o hm rm fm sm kI kJ R F S cn g th) H → va_D A (wL h r1 f1 s1 o hm rm fm sm kI kJ R F S cn g th) → va_S A s.heap H locs → lv_has ls 7 [(4, .int (nI (5 * i))), (3, .ref o), (2, .ref hm), (1, .ref h), (0, .ref b)] → W p l e room_1 s m #[Value.ref b] below meth c H locs (cells + 2) (slots + 12) Q (F0 m 585 ls [])) : W p l e room_1 s m #[Value.ref b] below meth c H locs cells slots Q (F0 m 460 ls []) := by
  obtain ⟨hx, hb, hml, hown, hts, hXs, hbl, hbA, hA, hK, hX, hl9⟩ := id C0
  have SC : CallFix p m c cL_law 7 s #[Value.ref b] wsL2 RL := ⟨hx, hb, hml, hown, hts⟩
  obtain ⟨e1, he1⟩ : ∃ x, xs (nI (5 * i + 1)).toNatClampNeg = x := ⟨_, rfl⟩
  refine lv_aload_n hx hb dL_law_460 rfl (lv_at hl 3 rfl) ?_
  refine lv_aload_n hx hb dL_law_461 rfl (lv_at hl 4 rfl) ?_
  refine lv_iload hx hb dL_law_462 (lv_at hl 0 rfl) ?_
  refine lv_iconst (v := 1) hx hb dL_law_464 (by decide) ?_
  refine lv_iadd hx hb dL_law_465 ?_
  refine q_top (nI ((5 * i) + 1)) (nI_1 _) ?_
  refine va_sld hx hb hXs hbl hbA hS (vp_in_nI (n := ((5 * i) + 1)) (by omega) (by omega)) dL_law_466 ?_
  refine q_top e1 he1 ?_
  refine lv_aload_n hx hb dL_law_467 rfl (lv_at hl 1 rfl) ?_
  by_cases hk : rk_kN R e1 cn = 0
  · refine r_swi (rm := ({ frames := 9, cells := 1, slots := 6, locals := 200 } : Room)) (As := [.ref h, .int e1, .ref o]) (rest := []) (w_next_ok l D ad kI kJ [(hm, .inr (1, [.ref rm, .ref fm, .ref sm, .int (nI cn), .int th])), (rm, .inl (kI, 4000, .inl R)), (fm, .inl (kI, 4000, .inl F)), (sm, .inl (kI, 4000, .inl S))] h r1 f1 s1 o R F S cn g e1 hl9 hR hk) SC (vx_cwSW 3 hts (zg_law gL_law_L_next) rfl rfl rfl (by decide +kernel) ⟨Nat.le_of_ble_eq_true rfl, Nat.le_of_ble_eq_true rfl⟩) hP hK hD hS hA hX rfl hl.1 rfl (Nat.le_of_ble_eq_true rfl) dL_law_468 ⟨by show cells + 1 ≤ 1047; omega, by show slots + 6 ≤ 32286; omega⟩ (fun H locs hP hD hS => ?_)
    have hP : va_P D vwD ([(h, .inr (0, [.ref r1, .ref f1, .ref s1, .int (nI cn)])), (r1, .inl (kI, 4000, .inl R)), (f1, .inl (kI, 4000, .inl F)), (s1, .inl (kI, 4000, .inl S)), (o, .inl (kJ, 1, .inr (.inl (vp_updL g 0 ((R (rk_pb R e1 cn)).toInt64))))), (hm, .inr (1, [.ref rm, .ref fm, .ref sm, .int (nI cn), .int th])), (rm, .inl (kI, 4000, .inl R)), (fm, .inl (kI, 4000, .inl F)), (sm, .inl (kI, 4000, .inl S))]) H := hP
    have hD : va_D A ([(h, .inr (0, [.ref r1, .ref f1, .ref s1, .int (nI cn)])), (r1, .inl (kI, 4000, .inl R)), (f1, .inl (kI, 4000, .inl F)), (s1, .inl (kI, 4000, .inl S)), (o, .inl (kJ, 1, .inr (.inl (vp_updL g 0 ((R (rk_pb R e1 cn)).toInt64))))), (hm, .inr (1, [.ref rm, .ref fm, .ref sm, .int (nI cn), .int th])), (rm, .inl (kI, 4000, .inl R)), (fm, .inl (kI, 4000, .inl F)), (sm, .inl (kI, 4000, .inl S))]) := hD
    refine lv_istore (lv' := [(5, .int 0), (4, .int (nI (5 * i))), (3, .ref o), (2, .ref hm), (1, .ref h), (0, .ref b)]) hx hb dL_law_471 hl (by decide) rfl (fun ls hl => ?_)
    refine lv_aload_n hx hb dL_law_473 rfl (lv_at hl 3 rfl) ?_
    refine lv_aload_n hx hb dL_law_474 rfl (lv_at hl 5 rfl) ?_
    refine lv_iload hx hb dL_law_475 (lv_at hl 1 rfl) ?_
    refine lv_iconst (v := 1) hx hb dL_law_477 (by decide) ?_
    refine lv_iadd hx hb dL_law_478 ?_
    refine q_top (nI ((5 * i) + 1)) (nI_1 _) ?_
    refine va_sld hx hb hXs hbl hbA hS (vp_in_nI (n := ((5 * i) + 1)) (by omega) (by omega)) dL_law_479 ?_
    refine q_top e1 he1 ?_
    refine r_vwi (rm := ({ frames := 8, cells := 1, slots := 6, locals := 180 } : Room)) (As := [.int e1]) (rest := []) (p_next_ok l D ad kI kJ (h, .inr (0, [.ref r1, .ref f1, .ref s1, .int (nI cn)])) (r1, .inl (kI, 4000, .inl R)) (f1, .inl (kI, 4000, .inl F)) (s1, .inl (kI, 4000, .inl S)) (o, .inl (kJ, 1, .inr (.inl (vp_updL g 0 ((R (rk_pb R e1 cn)).toInt64))))) hm rm fm sm R F S cn th e1 hl9 hR hk) SC (vx_cwVW 1 hts gL2_Z_next rfl rfl rfl (by decide +kernel) ⟨Nat.le_of_ble_eq_true rfl, Nat.le_of_ble_eq_true rfl⟩) hP hK hD hS hA hX 5 rfl rfl rfl hl.1 rfl (Nat.le_of_ble_eq_true rfl) dL_law_480 ⟨by show (cells + 1) + 1 ≤ 1047; omega, by show (slots + 6) + 6 ≤ 32286; omega⟩ (fun H locs hP hD hS => ?_)
    have hP : va_P D vwD ([(h, .inr (0, [.ref r1, .ref f1, .ref s1, .int (nI cn)])), (r1, .inl (kI, 4000, .inl R)), (f1, .inl (kI, 4000, .inl F)), (s1, .inl (kI, 4000, .inl S)), (o, .inl (kJ, 1, .inr (.inl (vp_updL g 0 ((R (rk_pb R e1 cn)).toInt64))))), (hm, .inr (1, [.ref rm, .ref fm, .ref sm, .int (nI cn), .int 0])), (rm, .inl (kI, 4000, .inl R)), (fm, .inl (kI, 4000, .inl F)), (sm, .inl (kI, 4000, .inl S))]) H := hP
    have hD : va_D A ([(h, .inr (0, [.ref r1, .ref f1, .ref s1, .int (nI cn)])), (r1, .inl (kI, 4000, .inl R)), (f1, .inl (kI, 4000, .inl F)), (s1, .inl (kI, 4000, .inl S)), (o, .inl (kJ, 1, .inr (.inl (vp_updL g 0 ((R (rk_pb R e1 cn)).toInt64))))), (hm, .inr (1, [.ref rm, .ref fm, .ref sm, .int (nI cn), .int 0])), (rm, .inl (kI, 4000, .inl R)), (fm, .inl (kI, 4000, .inl F)), (sm, .inl (kI, 4000, .inl S))]) := hD
    refine lv_istore (lv' := [(6, .int (R (rk_pb R e1 cn))), (5, .int 0), (4, .int (nI (5 * i))), (3, .ref o), (2, .ref hm), (1, .ref h), (0, .ref b)]) hx hb dL_law_483 hl (by decide) rfl (fun ls hl => ?_)
    refine lv_aload_n hx hb dL_law_485 rfl (lv_at hl 4 rfl) ?_
    refine r_i (rm := ({ frames := 0, cells := 0, slots := 0, locals := 0 } : Room)) (As := []) (rest := []) (j_tn l D ad kI kJ (h, .inr (0, [.ref r1, .ref f1, .ref s1, .int (nI cn)])) (r1, .inl (kI, 4000, .inl R)) (f1, .inl (kI, 4000, .inl F)) (s1, .inl (kI, 4000, .inl S)) (o, .inl (kJ, 1, .inr (.inl (vp_updL g 0 ((R (rk_pb R e1 cn)).toInt64))))) hm rm fm sm R F S cn 0) SC (cwV 0 hts gL2_Z_thrown rfl rfl rfl (by decide +kernel) ⟨Nat.le_of_ble_eq_true rfl, Nat.le_of_ble_eq_true rfl⟩) hP hK hD hS hA hX 5 rfl rfl rfl hl.1 rfl (Nat.le_of_ble_eq_true rfl) dL_law_486 ⟨by show ((cells + 1) + 1) + 0 ≤ 1047; omega, by show ((slots + 6) + 6) + 0 ≤ 32286; omega⟩ (fun H locs hP hD hS => ?_)
    have hP : va_P D vwD ([(h, .inr (0, [.ref r1, .ref f1, .ref s1, .int (nI cn)])), (r1, .inl (kI, 4000, .inl R)), (f1, .inl (kI, 4000, .inl F)), (s1, .inl (kI, 4000, .inl S)), (o, .inl (kJ, 1, .inr (.inl (vp_updL g 0 ((R (rk_pb R e1 cn)).toInt64))))), (hm, .inr (1, [.ref rm, .ref fm, .ref sm, .int (nI cn), .int 0])), (rm, .inl (kI, 4000, .inl R)), (fm, .inl (kI, 4000, .inl F)), (sm, .inl (kI, 4000, .inl S))]) H := hP
    have hD : va_D A ([(h, .inr (0, [.ref r1, .ref f1, .ref s1, .int (nI cn)])), (r1, .inl (kI, 4000, .inl R)), (f1, .inl (kI, 4000, .inl F)), (s1, .inl (kI, 4000, .inl S)), (o, .inl (kJ, 1, .inr (.inl (vp_updL g 0 ((R (rk_pb R e1 cn)).toInt64))))), (hm, .inr (1, [.ref rm, .ref fm, .ref sm, .int (nI cn), .int 0])), (rm, .inl (kI, 4000, .inl R)), (fm, .inl (kI, 4000, .inl F)), (sm, .inl (kI, 4000, .inl S))]) := hD
    refine lv_iload hx hb dL_law_489 (lv_at hl 1 rfl) ?_
    refine lv_icmp_eq (tgt := 496) hx hb dL_law_491 (by decide) (fun _ => ?_) (fun h9 => absurd (rfl) h9)
    refine lv_iload hx hb dL_law_496 (lv_at hl 1 rfl) ?_
    refine lv_if_ne (tgt := 513) hx hb dL_law_498 (by decide) (fun h9 => absurd h9 (fun q => q rfl)) (fun _ => ?_)
    refine lv_aload_n hx hb dL_law_501 rfl (lv_at hl 3 rfl) ?_
    refine lv_iconst (v := 0) hx hb dL_law_502 (by decide) ?_
    refine va_lald hx hb hK hP 4 1 rfl rfl (vp_in_nI (n := 0) (N := 1) (by decide) (by decide)) dL_law_503 ?_
    refine q_topl ((R (rk_pb R e1 cn)).toInt64) (by rw [sb_cl0, pk_uLs]) ?_
    refine lv_iload hx hb dL_law_504 (lv_at hl 0 rfl) ?_
    refine lv_i2l hx hb dL_law_506 rfl ?_
    refine W.lcmp hx hb dL_law_507 ?_
    refine q_top 0 ((lg_cmp_eq _ _).mpr rfl) ?_
    refine lv_if_eq (tgt := 513) hx hb dL_law_508 (by decide) (fun _ => ?_) (fun h9 => absurd (rfl) h9)
    refine lv_goto (tgt := 585) hx hb dL_law_513 (by decide) ?_
    refine W.widen (k := cells + 2) (n := slots + 12) (by omega) (by omega) ?_
    exact kk R F S cn (vp_updL g 0 ((R (rk_pb R e1 cn)).toInt64)) 0 H locs ls (hR) hP hD hS (lv_sub hl [2, 3, 4, 5, 6] rfl)
  · refine r_swi (rm := ({ frames := 9, cells := 1, slots := 6, locals := 200 } : Room)) (As := [.ref h, .int e1, .ref o]) (rest := []) (w_next_bad l D ad kI kJ [(hm, .inr (1, [.ref rm, .ref fm, .ref sm, .int (nI cn), .int th])), (rm, .inl (kI, 4000, .inl R)), (fm, .inl (kI, 4000, .inl F)), (sm, .inl (kI, 4000, .inl S))] h r1 f1 s1 o R F S cn g e1 hl9 hR hk) SC (vx_cwSW 3 hts (zg_law gL_law_L_next) rfl rfl rfl (by decide +kernel) ⟨Nat.le_of_ble_eq_true rfl, Nat.le_of_ble_eq_true rfl⟩) hP hK hD hS hA hX rfl hl.1 rfl (Nat.le_of_ble_eq_true rfl) dL_law_468 ⟨by show cells + 1 ≤ 1047; omega, by show slots + 6 ≤ 32286; omega⟩ (fun H locs hP hD hS => ?_)
    have hP : va_P D vwD ([(h, .inr (0, [.ref r1, .ref f1, .ref s1, .int (nI cn)])), (r1, .inl (kI, 4000, .inl R)), (f1, .inl (kI, 4000, .inl F)), (s1, .inl (kI, 4000, .inl S)), (o, .inl (kJ, 1, .inr (.inl g))), (hm, .inr (1, [.ref rm, .ref fm, .ref sm, .int (nI cn), .int th])), (rm, .inl (kI, 4000, .inl R)), (fm, .inl (kI, 4000, .inl F)), (sm, .inl (kI, 4000, .inl S))]) H := hP
    have hD : va_D A ([(h, .inr (0, [.ref r1, .ref f1, .ref s1, .int (nI cn)])), (r1, .inl (kI, 4000, .inl R)), (f1, .inl (kI, 4000, .inl F)), (s1, .inl (kI, 4000, .inl S)), (o, .inl (kJ, 1, .inr (.inl g))), (hm, .inr (1, [.ref rm, .ref fm, .ref sm, .int (nI cn), .int th])), (rm, .inl (kI, 4000, .inl R)), (fm, .inl (kI, 4000, .inl F)), (sm, .inl (kI, 4000, .inl S))]) := hD
    refine lv_istore (lv' := [(5, .int 1), (4, .int (nI (5 * i))), (3, .ref o), (2, .ref hm), (1, .ref h), (0, .ref b)]) hx hb dL_law_471 hl (by decide) rfl (fun ls hl => ?_)
    refine lv_aload_n hx hb dL_law_473 rfl (lv_at hl 3 rfl) ?_
    refine lv_aload_n hx hb dL_law_474 rfl (lv_at hl 5 rfl) ?_
    refine lv_iload hx hb dL_law_475 (lv_at hl 1 rfl) ?_
    refine lv_iconst (v := 1) hx hb dL_law_477 (by decide) ?_
    refine lv_iadd hx hb dL_law_478 ?_
    refine q_top (nI ((5 * i) + 1)) (nI_1 _) ?_
    refine va_sld hx hb hXs hbl hbA hS (vp_in_nI (n := ((5 * i) + 1)) (by omega) (by omega)) dL_law_479 ?_
    refine q_top e1 he1 ?_
    refine r_vwi (rm := ({ frames := 8, cells := 1, slots := 6, locals := 180 } : Room)) (As := [.int e1]) (rest := []) (p_next_bad l D ad kI kJ (h, .inr (0, [.ref r1, .ref f1, .ref s1, .int (nI cn)])) (r1, .inl (kI, 4000, .inl R)) (f1, .inl (kI, 4000, .inl F)) (s1, .inl (kI, 4000, .inl S)) (o, .inl (kJ, 1, .inr (.inl g))) hm rm fm sm R F S cn th e1 hl9 hR hk) SC (vx_cwVW 1 hts gL2_Z_next rfl rfl rfl (by decide +kernel) ⟨Nat.le_of_ble_eq_true rfl, Nat.le_of_ble_eq_true rfl⟩) hP hK hD hS hA hX 5 rfl rfl rfl hl.1 rfl (Nat.le_of_ble_eq_true rfl) dL_law_480 ⟨by show (cells + 1) + 1 ≤ 1047; omega, by show (slots + 6) + 6 ≤ 32286; omega⟩ (fun H locs hP hD hS => ?_)
    have hP : va_P D vwD ([(h, .inr (0, [.ref r1, .ref f1, .ref s1, .int (nI cn)])), (r1, .inl (kI, 4000, .inl R)), (f1, .inl (kI, 4000, .inl F)), (s1, .inl (kI, 4000, .inl S)), (o, .inl (kJ, 1, .inr (.inl g))), (hm, .inr (1, [.ref rm, .ref fm, .ref sm, .int (nI cn), .int (1)])), (rm, .inl (kI, 4000, .inl R)), (fm, .inl (kI, 4000, .inl F)), (sm, .inl (kI, 4000, .inl S))]) H := hP
    have hD : va_D A ([(h, .inr (0, [.ref r1, .ref f1, .ref s1, .int (nI cn)])), (r1, .inl (kI, 4000, .inl R)), (f1, .inl (kI, 4000, .inl F)), (s1, .inl (kI, 4000, .inl S)), (o, .inl (kJ, 1, .inr (.inl g))), (hm, .inr (1, [.ref rm, .ref fm, .ref sm, .int (nI cn), .int (1)])), (rm, .inl (kI, 4000, .inl R)), (fm, .inl (kI, 4000, .inl F)), (sm, .inl (kI, 4000, .inl S))]) := hD
    refine lv_istore (lv' := [(6, .int 0), (5, .int 1), (4, .int (nI (5 * i))), (3, .ref o), (2, .ref hm), (1, .ref h), (0, .ref b)]) hx hb dL_law_483 hl (by decide) rfl (fun ls hl => ?_)
    refine lv_aload_n hx hb dL_law_485 rfl (lv_at hl 4 rfl) ?_
    refine r_i (rm := ({ frames := 0, cells := 0, slots := 0, locals := 0 } : Room)) (As := []) (rest := []) (j_tn l D ad kI kJ (h, .inr (0, [.ref r1, .ref f1, .ref s1, .int (nI cn)])) (r1, .inl (kI, 4000, .inl R)) (f1, .inl (kI, 4000, .inl F)) (s1, .inl (kI, 4000, .inl S)) (o, .inl (kJ, 1, .inr (.inl g))) hm rm fm sm R F S cn (1)) SC (cwV 0 hts gL2_Z_thrown rfl rfl rfl (by decide +kernel) ⟨Nat.le_of_ble_eq_true rfl, Nat.le_of_ble_eq_true rfl⟩) hP hK hD hS hA hX 5 rfl rfl rfl hl.1 rfl (Nat.le_of_ble_eq_true rfl) dL_law_486 ⟨by show ((cells + 1) + 1) + 0 ≤ 1047; omega, by show ((slots + 6) + 6) + 0 ≤ 32286; omega⟩ (fun H locs hP hD hS => ?_)
    have hP : va_P D vwD ([(h, .inr (0, [.ref r1, .ref f1, .ref s1, .int (nI cn)])), (r1, .inl (kI, 4000, .inl R)), (f1, .inl (kI, 4000, .inl F)), (s1, .inl (kI, 4000, .inl S)), (o, .inl (kJ, 1, .inr (.inl g))), (hm, .inr (1, [.ref rm, .ref fm, .ref sm, .int (nI cn), .int (1)])), (rm, .inl (kI, 4000, .inl R)), (fm, .inl (kI, 4000, .inl F)), (sm, .inl (kI, 4000, .inl S))]) H := hP
    have hD : va_D A ([(h, .inr (0, [.ref r1, .ref f1, .ref s1, .int (nI cn)])), (r1, .inl (kI, 4000, .inl R)), (f1, .inl (kI, 4000, .inl F)), (s1, .inl (kI, 4000, .inl S)), (o, .inl (kJ, 1, .inr (.inl g))), (hm, .inr (1, [.ref rm, .ref fm, .ref sm, .int (nI cn), .int (1)])), (rm, .inl (kI, 4000, .inl R)), (fm, .inl (kI, 4000, .inl F)), (sm, .inl (kI, 4000, .inl S))]) := hD
    refine lv_iload hx hb dL_law_489 (lv_at hl 1 rfl) ?_
    refine lv_icmp_eq (tgt := 496) hx hb dL_law_491 (by decide) (fun _ => ?_) (fun h9 => absurd (rfl) h9)
    refine lv_iload hx hb dL_law_496 (lv_at hl 1 rfl) ?_
    refine lv_if_ne (tgt := 513) hx hb dL_law_498 (by decide) (fun _ => ?_) (fun h9 => absurd h9 ((by decide : ¬ (1 : Int32) = 0)))
    refine lv_goto (tgt := 585) hx hb dL_law_513 (by decide) ?_
    refine W.widen (k := cells + 2) (n := slots + 12) (by omega) (by omega) ?_
    exact kk R F S cn g (1) H locs ls (hR) hP hD hS (lv_sub hl [2, 3, 4, 5, 6] rfl)
set_option maxHeartbeats 4000000 in
set_option maxRecDepth 100000 in
theorem lc_place {p : Program} {l : Launch} {e : Env} {s : State} {m : MethodId} {below : List Frame} {meth : Method} {c : Code} {b L : Nat} {xs : Nat → Int32} {D : va_G} {ad : Nat → Nat} {kI kJ : ClassId} {A : Nat → Prop} {Q : State → Prop} (C0 : lwC p l s m c b L xs D ad kI kJ A) (h r1 f1 s1 o hm rm fm sm : Nat) (R F S : Nat → Int32) (cn : Nat) (g : Nat → Int64) (th : Int32) (hR : rk_ok R cn) (i : Nat) (hi : 5 * i + 5 ≤ L) (hL : L ≤ 2560) {H : Heap} {locs : List Loc} {cells slots : Nat} (hcc : cells + 2 ≤ 1047) (hss : slots + 12 ≤ 32286) (hP : va_P D vwD (wL h r1 f1 s1 o hm rm fm sm kI kJ R F S cn g th) H) (hD : va_D A (wL h r1 f1 s1 o hm rm fm sm kI kJ R F S cn g th)) (hS : va_S A s.heap H locs) {ls : Array Slot} (hl : lv_has ls 7 [(4, .int (nI (5 * i))), (3, .ref o), (2, .ref hm), (1, .ref h), (0, .ref b)])
    (kk : ∀ (R F S : Nat → Int32) (cn : Nat) (g : Nat → Int64) (th : Int32) (H : Heap) (locs : List Loc) (ls : Array Slot), rk_ok R cn → va_P D vwD (wL h r1 f1 s1 o hm rm fm sm kI kJ R F S cn g th) H → va_D A (wL h r1 f1 s1 o hm rm fm sm kI kJ R F S cn g th) → va_S A s.heap H locs → lv_has ls 7 [(4, .int (nI (5 * i))), (3, .ref o), (2, .ref hm), (1, .ref h), (0, .ref b)] → W p l e room_1 s m #[Value.ref b] below meth c H locs (cells + 2) (slots + 12) Q (F0 m 585 ls [])) : W p l e room_1 s m #[Value.ref b] below meth c H locs cells slots Q (F0 m 516 ls []) := by
  obtain ⟨hx, hb, hml, hown, hts, hXs, hbl, hbA, hA, hK, hX, hl9⟩ := id C0
  have SC : CallFix p m c cL_law 7 s #[Value.ref b] wsL2 RL := ⟨hx, hb, hml, hown, hts⟩
  obtain ⟨e1, he1⟩ : ∃ x, xs (nI (5 * i + 1)).toNatClampNeg = x := ⟨_, rfl⟩
  refine lv_aload_n hx hb dL_law_516 rfl (lv_at hl 3 rfl) ?_
  refine lv_aload_n hx hb dL_law_517 rfl (lv_at hl 4 rfl) ?_
  refine lv_iload hx hb dL_law_518 (lv_at hl 0 rfl) ?_
  refine lv_iconst (v := 1) hx hb dL_law_520 (by decide) ?_
  refine lv_iadd hx hb dL_law_521 ?_
  refine q_top (nI ((5 * i) + 1)) (nI_1 _) ?_
  refine va_sld hx hb hXs hbl hbA hS (vp_in_nI (n := ((5 * i) + 1)) (by omega) (by omega)) dL_law_522 ?_
  refine q_top e1 he1 ?_
  refine lv_aload_n hx hb dL_law_523 rfl (lv_at hl 1 rfl) ?_
  by_cases hk : rk_kP e1 cn = 0
  · refine r_swi (rm := ({ frames := 9, cells := 1, slots := 6, locals := 200 } : Room)) (As := [.ref h, .int e1, .ref o]) (rest := []) (w_place_ok l D ad kI kJ [(hm, .inr (1, [.ref rm, .ref fm, .ref sm, .int (nI cn), .int th])), (rm, .inl (kI, 4000, .inl R)), (fm, .inl (kI, 4000, .inl F)), (sm, .inl (kI, 4000, .inl S))] h r1 f1 s1 o R F S cn g e1 hl9 hR hk) SC (vx_cwSW 3 hts (zg_law gL_law_L_place) rfl rfl rfl (by decide +kernel) ⟨Nat.le_of_ble_eq_true rfl, Nat.le_of_ble_eq_true rfl⟩) hP hK hD hS hA hX rfl hl.1 rfl (Nat.le_of_ble_eq_true rfl) dL_law_524 ⟨by show cells + 1 ≤ 1047; omega, by show slots + 6 ≤ 32286; omega⟩ (fun H locs hP hD hS => ?_)
    have hP : va_P D vwD ([(h, .inr (0, [.ref r1, .ref f1, .ref s1, .int (nI cn)])), (r1, .inl (kI, 4000, .inl R)), (f1, .inl (kI, 4000, .inl F)), (s1, .inl (kI, 4000, .inl S)), (o, .inl (kJ, 1, .inr (.inl (vp_updL g 0 ((nI (rk_pl R e1 cn)).toInt64))))), (hm, .inr (1, [.ref rm, .ref fm, .ref sm, .int (nI cn), .int th])), (rm, .inl (kI, 4000, .inl R)), (fm, .inl (kI, 4000, .inl F)), (sm, .inl (kI, 4000, .inl S))]) H := hP
    have hD : va_D A ([(h, .inr (0, [.ref r1, .ref f1, .ref s1, .int (nI cn)])), (r1, .inl (kI, 4000, .inl R)), (f1, .inl (kI, 4000, .inl F)), (s1, .inl (kI, 4000, .inl S)), (o, .inl (kJ, 1, .inr (.inl (vp_updL g 0 ((nI (rk_pl R e1 cn)).toInt64))))), (hm, .inr (1, [.ref rm, .ref fm, .ref sm, .int (nI cn), .int th])), (rm, .inl (kI, 4000, .inl R)), (fm, .inl (kI, 4000, .inl F)), (sm, .inl (kI, 4000, .inl S))]) := hD
    refine lv_istore (lv' := [(5, .int 0), (4, .int (nI (5 * i))), (3, .ref o), (2, .ref hm), (1, .ref h), (0, .ref b)]) hx hb dL_law_527 hl (by decide) rfl (fun ls hl => ?_)
    refine lv_aload_n hx hb dL_law_529 rfl (lv_at hl 3 rfl) ?_
    refine lv_aload_n hx hb dL_law_530 rfl (lv_at hl 5 rfl) ?_
    refine lv_iload hx hb dL_law_531 (lv_at hl 1 rfl) ?_
    refine lv_iconst (v := 1) hx hb dL_law_533 (by decide) ?_
    refine lv_iadd hx hb dL_law_534 ?_
    refine q_top (nI ((5 * i) + 1)) (nI_1 _) ?_
    refine va_sld hx hb hXs hbl hbA hS (vp_in_nI (n := ((5 * i) + 1)) (by omega) (by omega)) dL_law_535 ?_
    refine q_top e1 he1 ?_
    refine r_vwi (rm := ({ frames := 8, cells := 1, slots := 6, locals := 180 } : Room)) (As := [.int e1]) (rest := []) (p_place_ok l D ad kI kJ (h, .inr (0, [.ref r1, .ref f1, .ref s1, .int (nI cn)])) (r1, .inl (kI, 4000, .inl R)) (f1, .inl (kI, 4000, .inl F)) (s1, .inl (kI, 4000, .inl S)) (o, .inl (kJ, 1, .inr (.inl (vp_updL g 0 ((nI (rk_pl R e1 cn)).toInt64))))) hm rm fm sm R F S cn th e1 hl9 hR hk) SC (vx_cwVW 1 hts gL2_Z_place rfl rfl rfl (by decide +kernel) ⟨Nat.le_of_ble_eq_true rfl, Nat.le_of_ble_eq_true rfl⟩) hP hK hD hS hA hX 5 rfl rfl rfl hl.1 rfl (Nat.le_of_ble_eq_true rfl) dL_law_536 ⟨by show (cells + 1) + 1 ≤ 1047; omega, by show (slots + 6) + 6 ≤ 32286; omega⟩ (fun H locs hP hD hS => ?_)
    have hP : va_P D vwD ([(h, .inr (0, [.ref r1, .ref f1, .ref s1, .int (nI cn)])), (r1, .inl (kI, 4000, .inl R)), (f1, .inl (kI, 4000, .inl F)), (s1, .inl (kI, 4000, .inl S)), (o, .inl (kJ, 1, .inr (.inl (vp_updL g 0 ((nI (rk_pl R e1 cn)).toInt64))))), (hm, .inr (1, [.ref rm, .ref fm, .ref sm, .int (nI cn), .int 0])), (rm, .inl (kI, 4000, .inl R)), (fm, .inl (kI, 4000, .inl F)), (sm, .inl (kI, 4000, .inl S))]) H := hP
    have hD : va_D A ([(h, .inr (0, [.ref r1, .ref f1, .ref s1, .int (nI cn)])), (r1, .inl (kI, 4000, .inl R)), (f1, .inl (kI, 4000, .inl F)), (s1, .inl (kI, 4000, .inl S)), (o, .inl (kJ, 1, .inr (.inl (vp_updL g 0 ((nI (rk_pl R e1 cn)).toInt64))))), (hm, .inr (1, [.ref rm, .ref fm, .ref sm, .int (nI cn), .int 0])), (rm, .inl (kI, 4000, .inl R)), (fm, .inl (kI, 4000, .inl F)), (sm, .inl (kI, 4000, .inl S))]) := hD
    refine lv_istore (lv' := [(6, .int (nI (rk_pl R e1 cn))), (5, .int 0), (4, .int (nI (5 * i))), (3, .ref o), (2, .ref hm), (1, .ref h), (0, .ref b)]) hx hb dL_law_539 hl (by decide) rfl (fun ls hl => ?_)
    refine lv_aload_n hx hb dL_law_541 rfl (lv_at hl 4 rfl) ?_
    refine r_i (rm := ({ frames := 0, cells := 0, slots := 0, locals := 0 } : Room)) (As := []) (rest := []) (j_tn l D ad kI kJ (h, .inr (0, [.ref r1, .ref f1, .ref s1, .int (nI cn)])) (r1, .inl (kI, 4000, .inl R)) (f1, .inl (kI, 4000, .inl F)) (s1, .inl (kI, 4000, .inl S)) (o, .inl (kJ, 1, .inr (.inl (vp_updL g 0 ((nI (rk_pl R e1 cn)).toInt64))))) hm rm fm sm R F S cn 0) SC (cwV 0 hts gL2_Z_thrown rfl rfl rfl (by decide +kernel) ⟨Nat.le_of_ble_eq_true rfl, Nat.le_of_ble_eq_true rfl⟩) hP hK hD hS hA hX 5 rfl rfl rfl hl.1 rfl (Nat.le_of_ble_eq_true rfl) dL_law_542 ⟨by show ((cells + 1) + 1) + 0 ≤ 1047; omega, by show ((slots + 6) + 6) + 0 ≤ 32286; omega⟩ (fun H locs hP hD hS => ?_)
    have hP : va_P D vwD ([(h, .inr (0, [.ref r1, .ref f1, .ref s1, .int (nI cn)])), (r1, .inl (kI, 4000, .inl R)), (f1, .inl (kI, 4000, .inl F)), (s1, .inl (kI, 4000, .inl S)), (o, .inl (kJ, 1, .inr (.inl (vp_updL g 0 ((nI (rk_pl R e1 cn)).toInt64))))), (hm, .inr (1, [.ref rm, .ref fm, .ref sm, .int (nI cn), .int 0])), (rm, .inl (kI, 4000, .inl R)), (fm, .inl (kI, 4000, .inl F)), (sm, .inl (kI, 4000, .inl S))]) H := hP
    have hD : va_D A ([(h, .inr (0, [.ref r1, .ref f1, .ref s1, .int (nI cn)])), (r1, .inl (kI, 4000, .inl R)), (f1, .inl (kI, 4000, .inl F)), (s1, .inl (kI, 4000, .inl S)), (o, .inl (kJ, 1, .inr (.inl (vp_updL g 0 ((nI (rk_pl R e1 cn)).toInt64))))), (hm, .inr (1, [.ref rm, .ref fm, .ref sm, .int (nI cn), .int 0])), (rm, .inl (kI, 4000, .inl R)), (fm, .inl (kI, 4000, .inl F)), (sm, .inl (kI, 4000, .inl S))]) := hD
    refine lv_iload hx hb dL_law_545 (lv_at hl 1 rfl) ?_
    refine lv_icmp_eq (tgt := 552) hx hb dL_law_547 (by decide) (fun _ => ?_) (fun h9 => absurd (rfl) h9)
    refine lv_iload hx hb dL_law_552 (lv_at hl 1 rfl) ?_
    refine lv_if_ne (tgt := 569) hx hb dL_law_554 (by decide) (fun h9 => absurd h9 (fun q => q rfl)) (fun _ => ?_)
    refine lv_aload_n hx hb dL_law_557 rfl (lv_at hl 3 rfl) ?_
    refine lv_iconst (v := 0) hx hb dL_law_558 (by decide) ?_
    refine va_lald hx hb hK hP 4 1 rfl rfl (vp_in_nI (n := 0) (N := 1) (by decide) (by decide)) dL_law_559 ?_
    refine q_topl ((nI (rk_pl R e1 cn)).toInt64) (by rw [sb_cl0, pk_uLs]) ?_
    refine lv_iload hx hb dL_law_560 (lv_at hl 0 rfl) ?_
    refine lv_i2l hx hb dL_law_562 rfl ?_
    refine W.lcmp hx hb dL_law_563 ?_
    refine q_top 0 ((lg_cmp_eq _ _).mpr rfl) ?_
    refine lv_if_eq (tgt := 569) hx hb dL_law_564 (by decide) (fun _ => ?_) (fun h9 => absurd (rfl) h9)
    refine lv_goto (tgt := 585) hx hb dL_law_569 (by decide) ?_
    refine W.widen (k := cells + 2) (n := slots + 12) (by omega) (by omega) ?_
    exact kk R F S cn (vp_updL g 0 ((nI (rk_pl R e1 cn)).toInt64)) 0 H locs ls (hR) hP hD hS (lv_sub hl [2, 3, 4, 5, 6] rfl)
  · refine r_swi (rm := ({ frames := 9, cells := 1, slots := 6, locals := 200 } : Room)) (As := [.ref h, .int e1, .ref o]) (rest := []) (w_place_bad l D ad kI kJ [(hm, .inr (1, [.ref rm, .ref fm, .ref sm, .int (nI cn), .int th])), (rm, .inl (kI, 4000, .inl R)), (fm, .inl (kI, 4000, .inl F)), (sm, .inl (kI, 4000, .inl S))] h r1 f1 s1 o R F S cn g e1 hl9 hR hk) SC (vx_cwSW 3 hts (zg_law gL_law_L_place) rfl rfl rfl (by decide +kernel) ⟨Nat.le_of_ble_eq_true rfl, Nat.le_of_ble_eq_true rfl⟩) hP hK hD hS hA hX rfl hl.1 rfl (Nat.le_of_ble_eq_true rfl) dL_law_524 ⟨by show cells + 1 ≤ 1047; omega, by show slots + 6 ≤ 32286; omega⟩ (fun H locs hP hD hS => ?_)
    have hP : va_P D vwD ([(h, .inr (0, [.ref r1, .ref f1, .ref s1, .int (nI cn)])), (r1, .inl (kI, 4000, .inl R)), (f1, .inl (kI, 4000, .inl F)), (s1, .inl (kI, 4000, .inl S)), (o, .inl (kJ, 1, .inr (.inl g))), (hm, .inr (1, [.ref rm, .ref fm, .ref sm, .int (nI cn), .int th])), (rm, .inl (kI, 4000, .inl R)), (fm, .inl (kI, 4000, .inl F)), (sm, .inl (kI, 4000, .inl S))]) H := hP
    have hD : va_D A ([(h, .inr (0, [.ref r1, .ref f1, .ref s1, .int (nI cn)])), (r1, .inl (kI, 4000, .inl R)), (f1, .inl (kI, 4000, .inl F)), (s1, .inl (kI, 4000, .inl S)), (o, .inl (kJ, 1, .inr (.inl g))), (hm, .inr (1, [.ref rm, .ref fm, .ref sm, .int (nI cn), .int th])), (rm, .inl (kI, 4000, .inl R)), (fm, .inl (kI, 4000, .inl F)), (sm, .inl (kI, 4000, .inl S))]) := hD
    refine lv_istore (lv' := [(5, .int 1), (4, .int (nI (5 * i))), (3, .ref o), (2, .ref hm), (1, .ref h), (0, .ref b)]) hx hb dL_law_527 hl (by decide) rfl (fun ls hl => ?_)
    refine lv_aload_n hx hb dL_law_529 rfl (lv_at hl 3 rfl) ?_
    refine lv_aload_n hx hb dL_law_530 rfl (lv_at hl 5 rfl) ?_
    refine lv_iload hx hb dL_law_531 (lv_at hl 1 rfl) ?_
    refine lv_iconst (v := 1) hx hb dL_law_533 (by decide) ?_
    refine lv_iadd hx hb dL_law_534 ?_
    refine q_top (nI ((5 * i) + 1)) (nI_1 _) ?_
    refine va_sld hx hb hXs hbl hbA hS (vp_in_nI (n := ((5 * i) + 1)) (by omega) (by omega)) dL_law_535 ?_
    refine q_top e1 he1 ?_
    refine r_vwi (rm := ({ frames := 8, cells := 1, slots := 6, locals := 180 } : Room)) (As := [.int e1]) (rest := []) (p_place_bad l D ad kI kJ (h, .inr (0, [.ref r1, .ref f1, .ref s1, .int (nI cn)])) (r1, .inl (kI, 4000, .inl R)) (f1, .inl (kI, 4000, .inl F)) (s1, .inl (kI, 4000, .inl S)) (o, .inl (kJ, 1, .inr (.inl g))) hm rm fm sm R F S cn th e1 hl9 hR hk) SC (vx_cwVW 1 hts gL2_Z_place rfl rfl rfl (by decide +kernel) ⟨Nat.le_of_ble_eq_true rfl, Nat.le_of_ble_eq_true rfl⟩) hP hK hD hS hA hX 5 rfl rfl rfl hl.1 rfl (Nat.le_of_ble_eq_true rfl) dL_law_536 ⟨by show (cells + 1) + 1 ≤ 1047; omega, by show (slots + 6) + 6 ≤ 32286; omega⟩ (fun H locs hP hD hS => ?_)
    have hP : va_P D vwD ([(h, .inr (0, [.ref r1, .ref f1, .ref s1, .int (nI cn)])), (r1, .inl (kI, 4000, .inl R)), (f1, .inl (kI, 4000, .inl F)), (s1, .inl (kI, 4000, .inl S)), (o, .inl (kJ, 1, .inr (.inl g))), (hm, .inr (1, [.ref rm, .ref fm, .ref sm, .int (nI cn), .int (1)])), (rm, .inl (kI, 4000, .inl R)), (fm, .inl (kI, 4000, .inl F)), (sm, .inl (kI, 4000, .inl S))]) H := hP
    have hD : va_D A ([(h, .inr (0, [.ref r1, .ref f1, .ref s1, .int (nI cn)])), (r1, .inl (kI, 4000, .inl R)), (f1, .inl (kI, 4000, .inl F)), (s1, .inl (kI, 4000, .inl S)), (o, .inl (kJ, 1, .inr (.inl g))), (hm, .inr (1, [.ref rm, .ref fm, .ref sm, .int (nI cn), .int (1)])), (rm, .inl (kI, 4000, .inl R)), (fm, .inl (kI, 4000, .inl F)), (sm, .inl (kI, 4000, .inl S))]) := hD
    refine lv_istore (lv' := [(6, .int 0), (5, .int 1), (4, .int (nI (5 * i))), (3, .ref o), (2, .ref hm), (1, .ref h), (0, .ref b)]) hx hb dL_law_539 hl (by decide) rfl (fun ls hl => ?_)
    refine lv_aload_n hx hb dL_law_541 rfl (lv_at hl 4 rfl) ?_
    refine r_i (rm := ({ frames := 0, cells := 0, slots := 0, locals := 0 } : Room)) (As := []) (rest := []) (j_tn l D ad kI kJ (h, .inr (0, [.ref r1, .ref f1, .ref s1, .int (nI cn)])) (r1, .inl (kI, 4000, .inl R)) (f1, .inl (kI, 4000, .inl F)) (s1, .inl (kI, 4000, .inl S)) (o, .inl (kJ, 1, .inr (.inl g))) hm rm fm sm R F S cn (1)) SC (cwV 0 hts gL2_Z_thrown rfl rfl rfl (by decide +kernel) ⟨Nat.le_of_ble_eq_true rfl, Nat.le_of_ble_eq_true rfl⟩) hP hK hD hS hA hX 5 rfl rfl rfl hl.1 rfl (Nat.le_of_ble_eq_true rfl) dL_law_542 ⟨by show ((cells + 1) + 1) + 0 ≤ 1047; omega, by show ((slots + 6) + 6) + 0 ≤ 32286; omega⟩ (fun H locs hP hD hS => ?_)
    have hP : va_P D vwD ([(h, .inr (0, [.ref r1, .ref f1, .ref s1, .int (nI cn)])), (r1, .inl (kI, 4000, .inl R)), (f1, .inl (kI, 4000, .inl F)), (s1, .inl (kI, 4000, .inl S)), (o, .inl (kJ, 1, .inr (.inl g))), (hm, .inr (1, [.ref rm, .ref fm, .ref sm, .int (nI cn), .int (1)])), (rm, .inl (kI, 4000, .inl R)), (fm, .inl (kI, 4000, .inl F)), (sm, .inl (kI, 4000, .inl S))]) H := hP
    have hD : va_D A ([(h, .inr (0, [.ref r1, .ref f1, .ref s1, .int (nI cn)])), (r1, .inl (kI, 4000, .inl R)), (f1, .inl (kI, 4000, .inl F)), (s1, .inl (kI, 4000, .inl S)), (o, .inl (kJ, 1, .inr (.inl g))), (hm, .inr (1, [.ref rm, .ref fm, .ref sm, .int (nI cn), .int (1)])), (rm, .inl (kI, 4000, .inl R)), (fm, .inl (kI, 4000, .inl F)), (sm, .inl (kI, 4000, .inl S))]) := hD
    refine lv_iload hx hb dL_law_545 (lv_at hl 1 rfl) ?_
    refine lv_icmp_eq (tgt := 552) hx hb dL_law_547 (by decide) (fun _ => ?_) (fun h9 => absurd (rfl) h9)
    refine lv_iload hx hb dL_law_552 (lv_at hl 1 rfl) ?_
    refine lv_if_ne (tgt := 569) hx hb dL_law_554 (by decide) (fun _ => ?_) (fun h9 => absurd h9 ((by decide : ¬ (1 : Int32) = 0)))
    refine lv_goto (tgt := 585) hx hb dL_law_569 (by decide) ?_
    refine W.widen (k := cells + 2) (n := slots + 12) (by omega) (by omega) ?_
    exact kk R F S cn g (1) H locs ls (hR) hP hD hS (lv_sub hl [2, 3, 4, 5, 6] rfl)
set_option maxHeartbeats 4000000 in
set_option maxRecDepth 100000 in
theorem lc_entries {p : Program} {l : Launch} {e : Env} {s : State} {m : MethodId} {below : List Frame} {meth : Method} {c : Code} {b L : Nat} {xs : Nat → Int32} {D : va_G} {ad : Nat → Nat} {kI kJ : ClassId} {A : Nat → Prop} {Q : State → Prop} (C0 : lwC p l s m c b L xs D ad kI kJ A) (h r1 f1 s1 o hm rm fm sm : Nat) (R F S : Nat → Int32) (cn : Nat) (g : Nat → Int64) (th : Int32) (hR : rk_ok R cn) (i : Nat) (hi : 5 * i + 5 ≤ L) (hL : L ≤ 2560) {H : Heap} {locs : List Loc} {cells slots : Nat} (hcc : cells + 2 ≤ 1047) (hss : slots + 12 ≤ 32286) (hP : va_P D vwD (wL h r1 f1 s1 o hm rm fm sm kI kJ R F S cn g th) H) (hD : va_D A (wL h r1 f1 s1 o hm rm fm sm kI kJ R F S cn g th)) (hS : va_S A s.heap H locs) {ls : Array Slot} (hl : lv_has ls 7 [(4, .int (nI (5 * i))), (3, .ref o), (2, .ref hm), (1, .ref h), (0, .ref b)])
    (kk : ∀ (R F S : Nat → Int32) (cn : Nat) (g : Nat → Int64) (th : Int32) (H : Heap) (locs : List Loc) (ls : Array Slot), rk_ok R cn → va_P D vwD (wL h r1 f1 s1 o hm rm fm sm kI kJ R F S cn g th) H → va_D A (wL h r1 f1 s1 o hm rm fm sm kI kJ R F S cn g th) → va_S A s.heap H locs → lv_has ls 7 [(4, .int (nI (5 * i))), (3, .ref o), (2, .ref hm), (1, .ref h), (0, .ref b)] → W p l e room_1 s m #[Value.ref b] below meth c H locs (cells + 2) (slots + 12) Q (F0 m 585 ls [])) : W p l e room_1 s m #[Value.ref b] below meth c H locs cells slots Q (F0 m 572 ls []) := by
  obtain ⟨hx, hb, hml, hown, hts, hXs, hbl, hbA, hA, hK, hX, hl9⟩ := id C0
  have SC : CallFix p m c cL_law 7 s #[Value.ref b] wsL2 RL := ⟨hx, hb, hml, hown, hts⟩
  refine lv_aload_n hx hb dL_law_572 rfl (lv_at hl 3 rfl) ?_
  refine r_i (rm := ({ frames := 0, cells := 0, slots := 0, locals := 0 } : Room)) (As := []) (rest := []) (k_en l D ad kI kJ ((o, .inl (kJ, 1, .inr (.inl g))) :: [(hm, .inr (1, [.ref rm, .ref fm, .ref sm, .int (nI cn), .int th])), (rm, .inl (kI, 4000, .inl R)), (fm, .inl (kI, 4000, .inl F)), (sm, .inl (kI, 4000, .inl S))]) h r1 f1 s1 R F S cn) SC (cwV 0 hts (zg_law gL_law_X0_entries) rfl rfl rfl (by decide +kernel) ⟨Nat.le_of_ble_eq_true rfl, Nat.le_of_ble_eq_true rfl⟩) hP hK hD hS hA hX 0 rfl rfl rfl hl.1 rfl (Nat.le_of_ble_eq_true rfl) dL_law_573 ⟨by show cells + 0 ≤ 1047; omega, by show slots + 0 ≤ 32286; omega⟩ (fun H locs hP hD hS => ?_)
  have hP : va_P D vwD ([(h, .inr (0, [.ref r1, .ref f1, .ref s1, .int (nI cn)])), (r1, .inl (kI, 4000, .inl R)), (f1, .inl (kI, 4000, .inl F)), (s1, .inl (kI, 4000, .inl S)), (o, .inl (kJ, 1, .inr (.inl g))), (hm, .inr (1, [.ref rm, .ref fm, .ref sm, .int (nI cn), .int th])), (rm, .inl (kI, 4000, .inl R)), (fm, .inl (kI, 4000, .inl F)), (sm, .inl (kI, 4000, .inl S))]) H := hP
  have hD : va_D A ([(h, .inr (0, [.ref r1, .ref f1, .ref s1, .int (nI cn)])), (r1, .inl (kI, 4000, .inl R)), (f1, .inl (kI, 4000, .inl F)), (s1, .inl (kI, 4000, .inl S)), (o, .inl (kJ, 1, .inr (.inl g))), (hm, .inr (1, [.ref rm, .ref fm, .ref sm, .int (nI cn), .int th])), (rm, .inl (kI, 4000, .inl R)), (fm, .inl (kI, 4000, .inl F)), (sm, .inl (kI, 4000, .inl S))]) := hD
  refine lv_aload_n hx hb dL_law_576 rfl (lv_at hl 2 rfl) ?_
  refine r_i (rm := ({ frames := 1, cells := 0, slots := 0, locals := 40 } : Room)) (As := []) (rest := [.int (nI cn)]) (p_entries l D ad kI kJ (h, .inr (0, [.ref r1, .ref f1, .ref s1, .int (nI cn)])) (r1, .inl (kI, 4000, .inl R)) (f1, .inl (kI, 4000, .inl F)) (s1, .inl (kI, 4000, .inl S)) (o, .inl (kJ, 1, .inr (.inl g))) hm rm fm sm R F S cn th) SC (cwV 0 hts gL2_Z_entries rfl rfl rfl (by decide +kernel) ⟨Nat.le_of_ble_eq_true rfl, Nat.le_of_ble_eq_true rfl⟩) hP hK hD hS hA hX 5 rfl rfl rfl hl.1 rfl (Nat.le_of_ble_eq_true rfl) dL_law_577 ⟨by show cells + 0 ≤ 1047; omega, by show slots + 0 ≤ 32286; omega⟩ (fun H locs hP hD hS => ?_)
  have hP : va_P D vwD ([(h, .inr (0, [.ref r1, .ref f1, .ref s1, .int (nI cn)])), (r1, .inl (kI, 4000, .inl R)), (f1, .inl (kI, 4000, .inl F)), (s1, .inl (kI, 4000, .inl S)), (o, .inl (kJ, 1, .inr (.inl g))), (hm, .inr (1, [.ref rm, .ref fm, .ref sm, .int (nI cn), .int 0])), (rm, .inl (kI, 4000, .inl R)), (fm, .inl (kI, 4000, .inl F)), (sm, .inl (kI, 4000, .inl S))]) H := hP
  have hD : va_D A ([(h, .inr (0, [.ref r1, .ref f1, .ref s1, .int (nI cn)])), (r1, .inl (kI, 4000, .inl R)), (f1, .inl (kI, 4000, .inl F)), (s1, .inl (kI, 4000, .inl S)), (o, .inl (kJ, 1, .inr (.inl g))), (hm, .inr (1, [.ref rm, .ref fm, .ref sm, .int (nI cn), .int 0])), (rm, .inl (kI, 4000, .inl R)), (fm, .inl (kI, 4000, .inl F)), (sm, .inl (kI, 4000, .inl S))]) := hD
  refine lv_icmp_eq (tgt := 585) hx hb dL_law_580 (by decide) (fun _ => ?_) (fun h9 => absurd (rfl) h9)
  refine W.widen (k := cells + 2) (n := slots + 12) (by omega) (by omega) ?_
  exact kk R F S cn g 0 H locs ls hR hP hD hS hl
end
section
/-! The law's loop -/
set_option maxHeartbeats 4000000 in
set_option maxRecDepth 100000 in
theorem lw_loop {p : Program} {l : Launch} {e : Env} {s : State} {m : MethodId} {below : List Frame} {meth : Method} {c : Code} {b L : Nat} {xs : Nat → Int32} {D : va_G} {ad : Nat → Nat} {kI kJ : ClassId} {A : Nat → Prop} {Q : State → Prop} (C0 : lwC p l s m c b L xs D ad kI kJ A) (hL : L ≤ 2560) (h r1 f1 s1 o hm rm fm sm : Nat)
    (hend : ∀ (H : Heap) (locs : List Loc) (cells slots : Nat) (ls : Array Slot), va_S A s.heap H locs → cells ≤ 1047 → slots ≤ 32286 → W p l e room_1 s m #[Value.ref b] below meth c H locs cells slots Q (F0 m 591 ls [])) :
    ∀ (d i : Nat), 512 - i < d → i ≤ 512 → ∀ (R F S : Nat → Int32) (cn : Nat) (g : Nat → Int64) (th : Int32) (H : Heap) (locs : List Loc) (ls : Array Slot) (cells slots : Nat), rk_ok R cn → cells ≤ 9 + 2 * i → slots ≤ 24010 + 12 * i → va_P D vwD (wL h r1 f1 s1 o hm rm fm sm kI kJ R F S cn g th) H → va_D A (wL h r1 f1 s1 o hm rm fm sm kI kJ R F S cn g th) → va_S A s.heap H locs → lv_has ls 7 [(4, .int (nI (5 * i))), (3, .ref o), (2, .ref hm), (1, .ref h), (0, .ref b)] → W p l e room_1 s m #[Value.ref b] below meth c H locs cells slots Q (F0 m 23 ls []) := by
  obtain ⟨hx, hb, hml, hown, hts, hXs, hbl, hbA, hA, hK, hX, hl9⟩ := id C0
  intro d
  induction d with
  | zero => intro i hd; exact absurd hd (Nat.not_lt_zero _)
  | succ d ih =>
    intro i hd hi R F S cn g th H locs ls cells slots hR hcc hss hP hD hS hl
    refine lv_iload hx hb dL_law_23 (lv_at hl 0 rfl) ?_
    refine lv_aload_n hx hb dL_law_25 rfl (lv_at hl 4 rfl) ?_
    refine va_slen hx hb hXs hbl hbA hS dL_law_26 ?_
    refine q_top (nI L) rfl ?_
    refine lv_iconst (v := 5) hx hb dL_law_27 (by decide) ?_
    refine lv_isub hx hb dL_law_28 ?_
    refine lv_icmp_gt (tgt := 591) hx hb dL_law_29 (by decide) (fun h1 => ?_) (fun h1 => ?_)
    · exact hend H locs cells slots ls hS (by omega) (by omega)
    · have hi5 : 5 * i + 5 ≤ L := rk_five hL (by omega) h1
      have kk : ∀ (R F S : Nat → Int32) (cn : Nat) (g : Nat → Int64) (th : Int32) (H : Heap) (locs : List Loc) (ls : Array Slot), rk_ok R cn → va_P D vwD (wL h r1 f1 s1 o hm rm fm sm kI kJ R F S cn g th) H → va_D A (wL h r1 f1 s1 o hm rm fm sm kI kJ R F S cn g th) → va_S A s.heap H locs → lv_has ls 7 [(4, .int (nI (5 * i))), (3, .ref o), (2, .ref hm), (1, .ref h), (0, .ref b)] → W p l e room_1 s m #[Value.ref b] below meth c H locs (cells + 2) (slots + 12) Q (F0 m 585 ls []) := by
        intro R F S cn g th H locs ls hR hP hD hS hl
        refine lv_iinc (k := 0) (v := nI ((5 * i) + 5)) (lv' := [(4, .int (nI ((5 * i) + 5))), (3, .ref o), (2, .ref hm), (1, .ref h), (0, .ref b)]) hx hb dL_law_585 hl rfl (by rw [(by decide : Int32.ofInt 5 = nI 5)]; exact nI_add _ _) (by decide) rfl (fun ls hl => ?_)
        refine lv_goto (tgt := 23) hx hb dL_law_588 (by decide) ?_
        have hl : lv_has ls 7 [(4, .int (nI (5 * (i + 1)))), (3, .ref o), (2, .ref hm), (1, .ref h), (0, .ref b)] := hl
        exact ih (i + 1) (by omega) (by omega) R F S cn g th H locs ls (cells + 2) (slots + 12) hR (by omega) (by omega) hP hD hS hl
      refine lv_aload_n hx hb dL_law_32 rfl (lv_at hl 4 rfl) ?_
      refine lv_iload hx hb dL_law_33 (lv_at hl 0 rfl) ?_
      refine va_sld hx hb hXs hbl hbA hS (vp_in_nI (n := (5 * i)) (by omega) (by omega)) dL_law_35 ?_
      refine lv_bipush (v := 7) hx hb dL_law_36 (by decide) ?_
      refine lv_iand hx hb dL_law_38 ?_
      obtain ⟨j, hj, hje⟩ := pk_andE (xs (nI (5 * i)).toNatClampNeg) (m := 7) 3 (by decide)
      refine q_top (nI j) hje ?_
      have hj8 : j = 0 ∨ j = 1 ∨ j = 2 ∨ j = 3 ∨ j = 4 ∨ j = 5 ∨ j = 6 ∨ j = 7 := by omega
      rcases hj8 with rfl | rfl | rfl | rfl | rfl | rfl | rfl | rfl
      · refine lv_tableIn (off := 45) (tgt := 84) hx hb dL_law_39 (by decide +kernel) (by decide +kernel) (by decide +kernel) (by decide +kernel) ?_
        exact lc_behind C0 h r1 f1 s1 o hm rm fm sm R F S cn g th hR i hi5 hL (by omega) (by omega) hP hD hS hl kk
      · refine lv_tableIn (off := 137) (tgt := 176) hx hb dL_law_39 (by decide +kernel) (by decide +kernel) (by decide +kernel) (by decide +kernel) ?_
        exact lc_before C0 h r1 f1 s1 o hm rm fm sm R F S cn g th hR i hi5 hL (by omega) (by omega) hP hD hS hl kk
      · refine lv_tableIn (off := 217) (tgt := 256) hx hb dL_law_39 (by decide +kernel) (by decide +kernel) (by decide +kernel) (by decide +kernel) ?_
        exact lc_weigh C0 h r1 f1 s1 o hm rm fm sm R F S cn g th hR i hi5 hL (by omega) (by omega) hP hD hS hl kk
      · refine lv_tableIn (off := 297) (tgt := 336) hx hb dL_law_39 (by decide +kernel) (by decide +kernel) (by decide +kernel) (by decide +kernel) ?_
        exact lc_find C0 h r1 f1 s1 o hm rm fm sm R F S cn g th hR i hi5 hL (by omega) (by omega) hP hD hS hl kk
      · refine lv_tableIn (off := 353) (tgt := 392) hx hb dL_law_39 (by decide +kernel) (by decide +kernel) (by decide +kernel) (by decide +kernel) ?_
        exact lc_sum C0 h r1 f1 s1 o hm rm fm sm R F S cn g th hR i hi5 hL (by omega) (by omega) hP hD hS hl kk
      · refine lv_tableIn (off := 421) (tgt := 460) hx hb dL_law_39 (by decide +kernel) (by decide +kernel) (by decide +kernel) (by decide +kernel) ?_
        exact lc_next C0 h r1 f1 s1 o hm rm fm sm R F S cn g th hR i hi5 hL (by omega) (by omega) hP hD hS hl kk
      · refine lv_tableIn (off := 477) (tgt := 516) hx hb dL_law_39 (by decide +kernel) (by decide +kernel) (by decide +kernel) (by decide +kernel) ?_
        exact lc_place C0 h r1 f1 s1 o hm rm fm sm R F S cn g th hR i hi5 hL (by omega) (by omega) hP hD hS hl kk
      · refine lv_tableIn (off := 533) (tgt := 572) hx hb dL_law_39 (by decide +kernel) (by decide +kernel) (by decide +kernel) (by decide +kernel) ?_
        exact lc_entries C0 h r1 f1 s1 o hm rm fm sm R F S cn g th hR i hi5 hL (by omega) (by omega) hP hD hS hl kk
end
section
/-! THE CLAIM OUT OF ONE WALK OF THE LAW'S BODY. Your part is whole_start (and what it stands on); all else here is the same for every law, but numbers. -/
def R_law : String := "RankRowsLaw"
def lw_P (b : Addr) (xs : List Int32) (args : Array Value) (s : State) : Prop := args = #[.ref b] ∧ s.IntsAt b xs ∧ xs.length ≤ 2560 ∧ (Jvm.Cond.and given_1 narrow_1).before args s = true
def lw_Q (_ : Array Value) (s : State) (o : Outcome) (t : State) : Prop := o = .returned (some (.int 1)) ∧ Framed s o t [] 1047 32286
def lw_Z (below : List Frame) (a : Array Value) (s : State) : State → Prop := fun t => ∃ o, t.status = .running ∧ Ended t below o ∧ lw_Q a s o t
/-- the law's own end, with 1 on the stack, nothing written that was there before, its room as the claim has it -/
theorem lw_ret {p : Program} {l : Launch} {e : Env} {s : State} {m : MethodId} {below : List Frame} {meth : Method} {c : Code} {b : Nat} (hx : p.tables.exec = Jvm.exec) (hb : c.code = code) (hr : meth.sig.returnType = ret) (hlocks : meth.locks = false) {pc : Nat} {H : Heap} {ls : Array Slot} (hdg : decode code pc = .ok (.ireturn, 1)) : W p l e room_1 s m #[Value.ref b] below meth c H [] 1047 32286 (lw_Z below #[Value.ref b] s) (F0 m pc ls [.int 1]) := by
  intro T hT X
  obtain ⟨fs, hret, hrun, hended, hW, hframe⟩ := X.leave (v := some (.int 1)) (hlocks := hlocks) (fun h => by rw [hr] at h; cases h)
  have hmeth' : T.vm.method? m = some meth := X.method'
  refine ⟨T.setFrames fs, ?_, .returned (some (.int 1)), hrun, hended, rfl, ⟨_, rfl⟩, hW, hframe⟩
  jvm_step X.here [X.here.top, hx, hb, hdg, hmeth', hr, ret, narrow_b1]
  (try refine ⟨rfl, ?_⟩); (try refine ⟨rfl, ?_⟩)
  first | (intro acts; rw [hret _ acts rfl rfl rfl]) | rw [hret _ _ rfl rfl rfl]
  exact Steps.refl _
/-- what holds at the law's entry: the machine, the code, the tables' words (any of lw_tbl by 'hts w (by decide +kernel)'), the script of L ints xs at the cell b, what the Statement gives of the start (any of its parts by flat_of_before) -/
def lw_At (p : Program) (s : State) (m : MethodId) (meth : Method) (c : Code) (b L : Nat) (xs : Nat → Int32) : Prop :=
  p.tables.exec = Jvm.exec ∧ c.code = code ∧ meth.sig.returnType = ret ∧ c.maxLocals = 7 ∧ s.vm.findClass R_law = some m.cls ∧ (∀ w ∈ lw_tbl, w.before #[Value.ref b] s = true) ∧ va_X b L xs s s.heap ∧ b < s.heap.size ∧ meth.locks = false ∧ (Jvm.Cond.and given_1 narrow_1).before #[Value.ref b] s = true
set_option maxHeartbeats 4000000 in
set_option maxRecDepth 100000 in
theorem ws_xg {s : State} {b : Nat} (hts : ∀ w ∈ lw_tbl, w.before #[Value.ref b] s = true) (hgv : (Jvm.Cond.and given_1 narrow_1).before #[Value.ref b] s = true) : ∃ ad : Nat → Nat, xg ad (fun q : Nat => s.heap.size ≤ q) s s.heap := by
  have hs := flat_of_before _ hgv
  have key : ∀ (k : Nat) (tx : String), (Cond.stringRef "RankRows" k tx).before #[Value.ref b] s = true → (Cond.exactly (.string "RankRows" k) "java/lang/String").before #[Value.ref b] s = true → ∃ a : Nat, vk_R "RankRows" k tx a s := by
    intro k tx h1 h2
    obtain ⟨a, c, cell, kk, g1, -⟩ := Cond.exactly_spec (args := #[Value.ref b]) (first := s) (o := none) (s := s) (idx := []) (t := .string "RankRows" k) (cls := "java/lang/String") h2
    exact ⟨a, vk_R.of h1 g1⟩
  obtain ⟨a25, h25⟩ := key 25 "n is not in 1 .. 200" (hts _ (by decide +kernel)) (hs _ (by decide +kernel))
  obtain ⟨a57, h57⟩ := key 57 "a rank is not below 0" (hts _ (by decide +kernel)) (hs _ (by decide +kernel))
  obtain ⟨a60, h60⟩ := key 60 "the rank falls on no entry" (hts _ (by decide +kernel)) (hs _ (by decide +kernel))
  obtain ⟨a62, h62⟩ := key 62 "which is not 0 or 1" (hts _ (by decide +kernel)) (hs _ (by decide +kernel))
  obtain ⟨a68, h68⟩ := key 68 "no entry stands there" (hts _ (by decide +kernel)) (hs _ (by decide +kernel))
  obtain ⟨a70, h70⟩ := key 70 "a weight is not in 0 .. 1000" (hts _ (by decide +kernel)) (hs _ (by decide +kernel))
  obtain ⟨a72, h72⟩ := key 72 "there is no such entry" (hts _ (by decide +kernel)) (hs _ (by decide +kernel))
  obtain ⟨a76, h76⟩ := key 76 "there would be too many entries" (hts _ (by decide +kernel)) (hs _ (by decide +kernel))
  refine ⟨fun k => if k = 25 then a25 else if k = 57 then a57 else if k = 60 then a60 else if k = 62 then a62 else if k = 68 then a68 else if k = 70 then a70 else if k = 72 then a72 else a76, ⟨vx_Zqof (hts _ (by decide +kernel)) (hts _ (by decide +kernel)) (hs _ (by decide +kernel)) (fun a h9 => Nat.not_le.mpr h9), vx_Zqof (hts _ (by decide +kernel)) (hts _ (by decide +kernel)) (hs _ (by decide +kernel)) (fun a h9 => Nat.not_le.mpr h9)⟩, ?_, ?_, ⟨va_Nc.of (hs _ (by decide +kernel)), va_Nc.of (hs _ (by decide +kernel)), va_Nc.of (hs _ (by decide +kernel))⟩, ?_⟩
  · intro q hq
    rcases List.mem_cons.mp hq with rfl | hq
    · exact va_Nw.of rfl (hts (.castable "java/lang/IllegalArgumentException" "java/lang/IllegalArgumentException") (by decide +kernel))
    rcases List.mem_cons.mp hq with rfl | hq
    · exact va_Nw.of rfl (hts (.castable "java/util/NoSuchElementException" "java/util/NoSuchElementException") (by decide +kernel))
    rcases List.mem_cons.mp hq with rfl | hq
    · exact va_Nw.of rfl (hts (.castable "java/lang/IllegalStateException" "java/lang/IllegalStateException") (by decide +kernel))
    cases hq
  · intro q hq
    rcases List.mem_cons.mp hq with rfl | hq
    · exact va_Nw.of rfl (hts (.declares ⟨"java/lang/RuntimeException", "<init>", "(Ljava/lang/String;)V"⟩) (by decide +kernel))
    rcases List.mem_cons.mp hq with rfl | hq
    · exact va_Nw.of rfl (hts (.declares ⟨"java/lang/Exception", "<init>", "(Ljava/lang/String;)V"⟩) (by decide +kernel))
    rcases List.mem_cons.mp hq with rfl | hq
    · exact va_Nw.of rfl (hts (.declares ⟨"java/lang/Throwable", "<init>", "(Ljava/lang/String;)V"⟩) (by decide +kernel))
    rcases List.mem_cons.mp hq with rfl | hq
    · exact va_Nw.of rfl (hts (.declares ⟨"java/lang/RuntimeException", "<init>", "()V"⟩) (by decide +kernel))
    rcases List.mem_cons.mp hq with rfl | hq
    · exact va_Nw.of rfl (hts (.declares ⟨"java/lang/Exception", "<init>", "()V"⟩) (by decide +kernel))
    rcases List.mem_cons.mp hq with rfl | hq
    · exact va_Nw.of rfl (hts (.declares ⟨"java/lang/Throwable", "<init>", "()V"⟩) (by decide +kernel))
    cases hq
  · intro q hq
    rcases List.mem_cons.mp hq with rfl | hq
    · exact h25
    rcases List.mem_cons.mp hq with rfl | hq
    · exact h57
    rcases List.mem_cons.mp hq with rfl | hq
    · exact h60
    rcases List.mem_cons.mp hq with rfl | hq
    · exact h62
    rcases List.mem_cons.mp hq with rfl | hq
    · exact h68
    rcases List.mem_cons.mp hq with rfl | hq
    · exact h70
    rcases List.mem_cons.mp hq with rfl | hq
    · exact h72
    rcases List.mem_cons.mp hq with rfl | hq
    · exact h76
    cases hq
set_option maxHeartbeats 4000000 in
set_option maxRecDepth 100000 in
/-- from the entry, for every script of at most 2560 ints, the law comes to its end with true -/
theorem whole_start {p : Program} {e : Env} {s : State} {m : MethodId} {below : List Frame} {meth : Method} {c : Code} (l : Launch) (hl9 : l.stackTraces = false) {b L : Nat} {xs : Nat → Int32} (hL : L ≤ 2560) (C0 : lw_At p s m meth c b L xs) : W p l e room_1 s m #[Value.ref b] below meth c s.heap [] 0 0 (lw_Z below #[Value.ref b] s) (entryFrame m ([Value.ref b] : List Value).toArray 7) := by
  obtain ⟨hx, hb, hr, hml, hown, hts0, hXs, hbl, hlocks, hgv⟩ := C0
  obtain ⟨ad, hX⟩ := ws_xg hts0 hgv
  have hts : ∀ w ∈ wsL2, w.before #[Value.ref b] s = true := fun w h => hts0 w (wsL2_in w h)
  obtain ⟨c0, i0, hK0⟩ := u_known (C := RX0) (T := TX0) (N := 4) (n := 4) hts0 (by decide +kernel) (hts0 (.instantiable RX0 4) (by decide +kernel))
  obtain ⟨c1, i1, hK1⟩ := u_known (C := RZ) (T := TZ) (N := 5) (n := 5) hts0 (fun w h => wsR_tbl w (wsZ0_in w h)) (hts0 (.instantiable RZ 5) (by decide +kernel))
  obtain ⟨kI, a1, a2⟩ := q_arr (t := .int) (hts0 (.arrayClass .int) (by decide +kernel))
  obtain ⟨kJ, b1, b2⟩ := q_arr (t := .long) (hts0 (.arrayClass .long) (by decide +kernel))
  obtain ⟨D, hDe⟩ : ∃ D : va_G, D = ((fun k => if k = 0 then c0 else c1), (fun k => if k = 0 then i0 else i1)) := ⟨_, rfl⟩
  have hK : va_K D vwD [(kI, .int), (kJ, .long)] s := by
    subst hDe
    refine ⟨fun k q hq => ?_, fun k q hq => ?_⟩
    · match k, hq with
      | 0, hq => cases hq; exact hK0
      | 1, hq => cases hq; exact hK1
      | k + 2, hq => simp [vwD] at hq
    · match k, hq with
      | 0, hq => cases hq; exact ⟨a1, a2⟩
      | 1, hq => cases hq; exact ⟨b1, b2⟩
      | k + 2, hq => simp at hq
  obtain ⟨A, hAe⟩ : ∃ A : Nat → Prop, A = fun q => s.heap.size ≤ q := ⟨_, rfl⟩
  rw [← hAe] at hX
  have hA : ∀ q, s.heap.size ≤ q → A q := by rw [hAe]; exact fun _ h => h
  have hbA : ¬ A b := by rw [hAe]; exact Nat.not_le.mpr hbl
  have hown : s.vm.findClass RL = some m.cls := hown
  have C1 : lwC p l s m c b L xs D ad kI kJ A := ⟨hx, hb, hml, hown, hts, hXs, hbl, hbA, hA, hK, hX, hl9⟩
  have SC : CallFix p m c cL_law 7 s #[Value.ref b] wsL2 RL := ⟨hx, hb, hml, hown, hts⟩
  have hP : va_P D vwD [] s.heap := fun k q h => by simp at h
  have hD : va_D A [] := ⟨fun i j p q h => by simp at h, fun k q h => by simp at h⟩
  have hS : va_S A s.heap s.heap [] := va_S.rf
  have hl := lv_entry ([.ref b]) (n := 7) (Nat.le_of_ble_eq_true rfl)
  rw [lg_entry_eq]
  generalize (lg_sl ([.ref b]) ++ List.replicate (7 - (lg_sl ([.ref b])).length) Slot.unset).toArray = ls at hl ⊢
  have hl : lv_has ls 7 [(0, .ref b)] := hl
  have hb : c.code = cL_law := hb
  refine va_new (ci := 0) (fs := [.null, .null, .null, .int 0]) (C := RX0) (T := TX0) (N := 4) hx hb hts0 (by decide +kernel) tyX0 tyX0_ok hown (hts0 (.classLink RL 8 RX0) (by decide +kernel)) (hts0 (.instantiable RX0 4) (by decide +kernel)) (hts0 (.initialized RX0) (by decide +kernel)) hK hP hD hS hA rfl (fun j hj => by rcases (show j = 0 ∨ j = 1 ∨ j = 2 ∨ j = 3 by omega) with rfl | rfl | rfl | rfl <;> rfl) (Nat.le_of_ble_eq_true rfl) (Nat.le_of_ble_eq_true rfl) dL_law_0 (fun h H hP hD hS => ?_)
  have hP : va_P D vwD [(h, .inr (0, [.null, .null, .null, .int 0]))] H := hP
  have hD : va_D A [(h, .inr (0, [.null, .null, .null, .int 0]))] := hD
  refine lv_dup hx hb dL_law_3 rfl ?_
  refine r_n (rm := ({ frames := 1, cells := 3, slots := 12000, locals := 40 } : Room)) (As := []) (rest := [.ref h]) (k_init l D ad kI kJ h) SC (cwI 0 hts (zg_law gL_law_X0_init) rfl rfl rfl (hts0 (.initialized RX0) (by decide +kernel)) (hts0 (.methodLink RL 40 yX0_init) (by decide +kernel)) (hts0 (.instanceMethod yX0_init) (by decide +kernel)) rfl (by decide +kernel) ⟨Nat.le_of_ble_eq_true rfl, Nat.le_of_ble_eq_true rfl⟩) hP hK hD hS hA hX rfl hl.1 rfl (Nat.le_of_ble_eq_true rfl) dL_law_4 ⟨Nat.le_of_ble_eq_true rfl, Nat.le_of_ble_eq_true rfl⟩ (fun u H locs hP hD hS => ?_)
  obtain ⟨r1, f1, s1⟩ := u
  have hP : va_P D vwD [(h, .inr (0, [.ref r1, .ref f1, .ref s1, .int (nI 0)])), (r1, .inl (kI, 4000, .inl (fun _ => 0))), (f1, .inl (kI, 4000, .inl (fun _ => 0))), (s1, .inl (kI, 4000, .inl (fun _ => 0)))] H := hP
  have hD : va_D A [(h, .inr (0, [.ref r1, .ref f1, .ref s1, .int (nI 0)])), (r1, .inl (kI, 4000, .inl (fun _ => 0))), (f1, .inl (kI, 4000, .inl (fun _ => 0))), (s1, .inl (kI, 4000, .inl (fun _ => 0)))] := hD
  refine lv_astore_n (lv' := [(1, .ref h), (0, .ref b)]) hx hb dL_law_7 rfl hl (by decide) rfl (fun ls hl => ?_)
  refine va_new (ci := 1) (fs := [.null, .null, .null, .int 0, .int 0]) (C := RZ) (T := TZ) (N := 5) hx hb hts0 (fun w h => wsR_tbl w (wsZ0_in w h)) tyZ tyZ_ok hown (hts0 (.classLink RL 41 RZ) (by decide +kernel)) (hts0 (.instantiable RZ 5) (by decide +kernel)) (hts0 (.initialized RZ) (by decide +kernel)) hK hP hD hS hA rfl (fun j hj => by rcases (show j = 0 ∨ j = 1 ∨ j = 2 ∨ j = 3 ∨ j = 4 by omega) with rfl | rfl | rfl | rfl | rfl <;> rfl) (Nat.le_of_ble_eq_true rfl) (Nat.le_of_ble_eq_true rfl) dL_law_8 (fun hm H hP hD hS => ?_)
  have hP : va_P D vwD [(h, .inr (0, [.ref r1, .ref f1, .ref s1, .int (nI 0)])), (r1, .inl (kI, 4000, .inl (fun _ => 0))), (f1, .inl (kI, 4000, .inl (fun _ => 0))), (s1, .inl (kI, 4000, .inl (fun _ => 0))), (hm, .inr (1, [.null, .null, .null, .int 0, .int 0]))] H := hP
  have hD : va_D A [(h, .inr (0, [.ref r1, .ref f1, .ref s1, .int (nI 0)])), (r1, .inl (kI, 4000, .inl (fun _ => 0))), (f1, .inl (kI, 4000, .inl (fun _ => 0))), (s1, .inl (kI, 4000, .inl (fun _ => 0))), (hm, .inr (1, [.null, .null, .null, .int 0, .int 0]))] := hD
  refine lv_dup hx hb dL_law_11 rfl ?_
  refine r_n (rm := ({ frames := 1, cells := 3, slots := 12000, locals := 40 } : Room)) (As := []) (rest := [.ref hm]) (j_init l D ad kI kJ (h, .inr (0, [.ref r1, .ref f1, .ref s1, .int (nI 0)])) (r1, .inl (kI, 4000, .inl (fun _ => 0))) (f1, .inl (kI, 4000, .inl (fun _ => 0))) (s1, .inl (kI, 4000, .inl (fun _ => 0))) hm) SC (cwI 0 hts gL2_Z_init rfl rfl rfl (hts0 (.initialized RZ) (by decide +kernel)) (hts0 (.methodLink RL 43 yZ_init) (by decide +kernel)) (hts0 (.instanceMethod yZ_init) (by decide +kernel)) rfl (by decide +kernel) ⟨Nat.le_of_ble_eq_true rfl, Nat.le_of_ble_eq_true rfl⟩) hP hK hD hS hA hX rfl hl.1 rfl (Nat.le_of_ble_eq_true rfl) dL_law_12 ⟨Nat.le_of_ble_eq_true rfl, Nat.le_of_ble_eq_true rfl⟩ (fun u H locs hP hD hS => ?_)
  obtain ⟨rm, fm, sm⟩ := u
  have hP : va_P D vwD [(h, .inr (0, [.ref r1, .ref f1, .ref s1, .int (nI 0)])), (r1, .inl (kI, 4000, .inl (fun _ => 0))), (f1, .inl (kI, 4000, .inl (fun _ => 0))), (s1, .inl (kI, 4000, .inl (fun _ => 0))), (hm, .inr (1, [.ref rm, .ref fm, .ref sm, .int (nI 0), .int 0])), (rm, .inl (kI, 4000, .inl (fun _ => 0))), (fm, .inl (kI, 4000, .inl (fun _ => 0))), (sm, .inl (kI, 4000, .inl (fun _ => 0)))] H := hP
  have hD : va_D A [(h, .inr (0, [.ref r1, .ref f1, .ref s1, .int (nI 0)])), (r1, .inl (kI, 4000, .inl (fun _ => 0))), (f1, .inl (kI, 4000, .inl (fun _ => 0))), (s1, .inl (kI, 4000, .inl (fun _ => 0))), (hm, .inr (1, [.ref rm, .ref fm, .ref sm, .int (nI 0), .int 0])), (rm, .inl (kI, 4000, .inl (fun _ => 0))), (fm, .inl (kI, 4000, .inl (fun _ => 0))), (sm, .inl (kI, 4000, .inl (fun _ => 0)))] := hD
  refine lv_astore_n (lv' := [(2, .ref hm), (1, .ref h), (0, .ref b)]) hx hb dL_law_15 rfl hl (by decide) rfl (fun ls hl => ?_)
  refine lv_iconst (v := 1) hx hb dL_law_16 (by decide) ?_
  refine q_newl hx hb (hts0 (.arrayClass .long) (by decide +kernel)) hK hP hD hS hA (Nat.le_of_ble_eq_true rfl) (Nat.le_of_ble_eq_true rfl) dL_law_17 (fun o H hP hD hS => ?_)
  have hP := hP.sub (ws' := wL h r1 f1 s1 o hm rm fm sm kI kJ (fun _ => 0) (fun _ => 0) (fun _ => 0) 0 (fun _ => 0) 0) [0, 1, 2, 3, 8, 4, 5, 6, 7] rfl
  have hD := hD.sub (ws' := wL h r1 f1 s1 o hm rm fm sm kI kJ (fun _ => 0) (fun _ => 0) (fun _ => 0) 0 (fun _ => 0) 0) [0, 1, 2, 3, 8, 4, 5, 6, 7] (by decide) rfl
  refine lv_astore_n (lv' := [(3, .ref o), (2, .ref hm), (1, .ref h), (0, .ref b)]) hx hb dL_law_19 rfl hl (by decide) rfl (fun ls hl => ?_)
  refine lv_iconst (v := 0) hx hb dL_law_20 (by decide) ?_
  refine lv_istore (lv' := [(4, .int 0), (3, .ref o), (2, .ref hm), (1, .ref h), (0, .ref b)]) hx hb dL_law_21 hl (by decide) rfl (fun ls hl => ?_)
  have hl : lv_has ls 7 [(4, .int (nI (5 * 0))), (3, .ref o), (2, .ref hm), (1, .ref h), (0, .ref b)] := hl
  refine lw_loop C1 hL h r1 f1 s1 o hm rm fm sm (fun H locs cells slots ls hS hc hs => ?_) 513 0 (by omega) (by omega) (fun _ => 0) (fun _ => 0) (fun _ => 0) 0 (fun _ => 0) 0 H locs ls _ _ (rk_ok_0 _) (Nat.le_of_ble_eq_true rfl) (Nat.le_of_ble_eq_true rfl) hP hD hS hl
  refine va_forget (fun q hq => by have h9 := hS.2.2 q hq; rw [hAe] at h9; exact h9) ?_
  refine lv_iconst (v := 1) hx hb dL_law_591 (by decide) ?_
  refine W.widen (k := 1047) (n := 32286) hc hs ?_
  exact lw_ret hx hb hr hlocks dL_law_592
set_option maxHeartbeats 4000000 in
theorem lw_walk (l : Launch) (hl9 : l.stackTraces = false) (b : Addr) (xs : List Int32) : MetFree l x (headSpec (Jvm.Cond.code x code maxLocals ret :: tables_1) room_1) (lw_P b xs) (fun _ _ _ _ _ => True) lw_Q := by
  refine MetFree.of_bodyS (code := code) (maxLocals := maxLocals) (ret := ret) (by decide) ?_ ?_
  · intro args s m h hn
    obtain ⟨meth, c, h1, h2, h3, h4, h5, h6, -, -⟩ := Cond.code_spec hn (atoms_spec (ws := Jvm.Cond.code x code maxLocals ret :: tables_1) h _ List.mem_cons_self)
    exact ⟨meth, c, h1, h2, h3, h4, h5, h6⟩
  · intro p e s m args below meth c s₁ B hml0 hP _
    obtain ⟨rfl, hx, hbd, hgv⟩ := hP
    obtain ⟨scr, harrAt, hlist, hof, hsmall⟩ := hx
    obtain ⟨hcb, hkn, -, -⟩ := State.arrayAt?_spec harrAt
    have hown : s.vm.findClass R_law = some m.cls := findClass_of_methodNamed B.named
    have hts0 : ∀ c ∈ (Jvm.Cond.code x code maxLocals ret :: tables_1), c.before #[Value.ref b] s = true := atoms_spec (ws := Jvm.Cond.code x code maxLocals ret :: tables_1) B.pre
    have hts : ∀ w ∈ lw_tbl, w.before #[Value.ref b] s = true := k2_hts_sels lw_privs (fun w hw => hts0 w (List.mem_cons_of_mem _ hw)) lw_privs_ok
    have hml : c.maxLocals = 7 := B.maxLocals_eq (hts0 _ List.mem_cons_self)
    have X₀ : Stand p l e room_1 s m #[Value.ref b] below meth c s₁ [] 0 0 := Stand.of_body B
    have hh0 : s₁.heap = s.heap := by rw [B.state]; rfl
    have hsz : scr.slots.size = xs.length := by rw [← Array.length_toList, hlist, List.length_map]
    have hval : ∀ j : Nat, j < xs.length → scr.slots[j]? = some (.int (xs.getD j 0)) := fun j hj => by
      rw [← Array.getElem?_toList, hlist]
      simp [hj]
    have hbl : b < s.heap.size := (Array.getElem?_eq_some_iff.mp hcb).1
    have hX : va_X b xs.length (fun j => xs.getD j 0) s s.heap := ⟨scr, hcb, hof, hkn, hsz, hval⟩
    have K : W p l e room_1 s m #[Value.ref b] below meth c s₁.heap [] 0 0 (lw_Z below #[Value.ref b] s) (entryFrame m ([Value.ref b] : List Value).toArray 7) := by
      rw [hh0]
      exact whole_start l hl9 hbd ⟨B.exec, B.bytes, B.returns, hml, hown, hts, hX, hbl, B.notSynchronized, hgv⟩
    obtain ⟨t, a1, o, b1, b2, b3⟩ := K s₁ rfl X₀
    exact ⟨t, o, a1, b1, b2, b3⟩
theorem lw_pre_spec {args : Array Value} {s : State} (h : (Jvm.Cond.and given_1 narrow_1).before args s = true) (hr : rest_1_c.before args s = true) : ∃ (b : Addr) (xs : List Int32), lw_P b xs args s := by
  have hs := flat_of_before _ h
  have hq := flat_of_before _ hr
  have hc : (Cond.count 1).before args s = true := hs _ (by decide +kernel)
  have harr : (Cond.arrayOf (.arg 0) .int).before args s = true := hs _ (by decide +kernel)
  have hle : (Cond.le (.length (.arg 0)) (.int 2560)).before args s = true := hs _ (by decide +kernel)
  have hlen : (Cond.isInt (.length (.arg 0))).before args s = true := hq _ (by decide +kernel)
  have hall : (Cond.all (.arg 0) (.isInt (.elem (.arg 0) (.index 0)))).before args s = true := hq _ (by decide +kernel)
  obtain ⟨b, xs, hb, hx⟩ := State.ints_of_pre rfl harr hlen hall
  have hsm : xs.length < 2 ^ 31 := hx.choose_spec.2.2.2
  have hev : (Term.length (.arg 0)).eval args s none [] s = some (.int xs.length.toInt32) := hx.length_eval hb
  have hv := Cond.le_ints hev (show (Term.int 2560).eval args s none [] s = some (.int 2560) from rfl)
  have hd : xs.length.toInt32 ≤ 2560 := by
    simpa [Cond.before, Cond.holds, hv] using hle
  have hN : xs.length ≤ 2560 := (Int32.ofNat_le_ofNat hsm (by decide)).mp (show Int32.ofNat xs.length ≤ Int32.ofNat 2560 from hd)
  exact ⟨b, xs, Cond.one_arg hc (show args[0]? = some (.ref b) from hb), hx, hN, h⟩
theorem lw_comes (l : Launch) (hl9 : l.stackTraces = false) : Comes l x (Jvm.Cond.code x code maxLocals ret :: tables_1) room_1 (fun tb e args s => Calls_1 tb e args s ∧ rest_1 tb e args s ∧ Pre_1 tb e args s)
    (fun _ _ args s o t => lw_Q args s o t) := by
  intro p e ha hc hk s m args below hf hfit hheap happ hpre
  obtain ⟨b, xs, hP⟩ := lw_pre_spec hpre.2.2 hpre.2.1
  obtain ⟨k, o, h1, h2, h3, hQ⟩ := lw_walk l hl9 b xs p e ha hc hk s m args below hf ((Spec.applies_iff_loose hf).mp happ).1 hP trivial
  exact ⟨k, o, h1, h2, h3, hQ⟩
theorem lw_frame {s t : State} {o : Outcome} {args : Array Value} (h : Framed s o t [] 1047 32286) :
    Framed s o t (fieldLocs frame_1_writes args s ++ arrayLocs frame_1_arrays args s ++ staticLocs frame_1_statics s) 1047 32286 := h
theorem lw_limb (L : Cond) (hL : ∀ (args : Array Value) (s t : State), L.after args s (.returned (some (.int 1))) t = true) :
    ArmFor flags0 classFile x code maxLocals ret World_1 tables_1 room_1 Calls_1 rest_1 Pre_1
      (fun tb e a s o t => postC L tb e a s o t ∧ Framed s o t (fieldLocs frame_1_writes a s ++ arrayLocs frame_1_arrays a s ++ staticLocs frame_1_statics s) 1047 32286) := by
  intro l hfl _ _ p e ha hc hk s m args below hf hfit hheap happ hpre
  obtain ⟨k, o, h1, h2, h3, rfl, hF⟩ := lw_comes l (by show (!l.flags.contains Jvm.noTraceFlag) = false; rw [hfl]; decide +kernel) p e ha hc hk s m args below hf hfit hheap happ hpre
  exact ⟨k, _, h1, h2, h3, hL args s _, lw_frame hF⟩
theorem i_vc : Claimed_1_1 ∧ Claimed_1_2 := ⟨lw_limb limb_1_1 (fun args s t => by simp [limb_1_1, Cond.after, Cond.holds, Cond.value]), lw_limb limb_1_2 (fun args s t => Cond.after_iff.mpr (by
  first | (rw [show limb_1_2 = Cond.eq .result (.int 1) from rfl, Cond.eq_ints (x := 1) (y := 1) rfl rfl]; simp; done) | (simp [limb_1_2, Cond.value, Term.eval]; done)))⟩
end
