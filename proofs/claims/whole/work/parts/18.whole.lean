/-! THE CLAIM OUT OF ONE WALK OF THE LAW'S BODY. Your part is whole_start (and what it stands on); all else here is the same for every law, but numbers. -/
def R_law : String := "RankRowsLaw"
def lw_P (b : Addr) (xs : List Int32) (args : Array Value) (s : State) : Prop := args = #[.ref b] ∧ s.IntsAt b xs ∧ xs.length ≤ 2560 ∧ (Jvm.Cond.and given_1 narrow_1).before args s = true
def lw_Q (_ : Array Value) (s : State) (o : Outcome) (t : State) : Prop := o = .returned (some (.int 1)) ∧ Framed s o t [] 1047 32286
def lw_Z (below : List Frame) (a : Array Value) (s : State) : State → Prop := fun t => ∃ o, t.status = .running ∧ Ended t below o ∧ lw_Q a s o t
/-- the law's own end, with 1 on the stack, nothing written that was there before, its room as the claim has it -/
theorem lw_ret {p : Program} {l : Launch} {e : Env} {s : State} {m : MethodId} {below : List Frame} {meth : Method} {c : Code} {b : Nat} (hx : p.tables.exec = Jvm.exec) (hb : c.code = code) (hr : meth.sig.returnType = ret) (hlocks : meth.locks = false) {pc : Nat} {H : Heap} {ls : Array Slot} (hdg : decode code pc = .ok (.ireturn, 1)) : W p l e room_1 s m #[Value.ref b] below meth c H [] 1047 32286 (lw_Z below #[Value.ref b] s) (F0 m pc ls [.int 1]) := by
  intro T hT X
  obtain ⟨fs, hret, hrun, hended, hW, hframe⟩ := X.leave (v := some (.int 1)) (hlocks := hlocks) (fun h => by rw [hr] at h; cases h)
  have hmeth' : T.vm.method? m = some meth := X.method'
  refine ⟨T.setFrames fs, ?_, .returned (some (.int 1)), hrun, hended, rfl, ⟨_, rfl⟩, hW, hframe⟩
  jvm_step X.here [X.here.top, hx, hb, hdg, hmeth', hr, ret, narrow_b1]
  (try refine ⟨rfl, ?_⟩); (try refine ⟨rfl, ?_⟩)
  first | (intro acts; rw [hret _ acts rfl rfl rfl]) | rw [hret _ _ rfl rfl rfl]
  exact Steps.refl _
/-- what holds at the law's entry: the machine, the code, the tables' words (any of lw_tbl by 'hts w (by decide +kernel)'), the script of L ints xs at the cell b, what the Statement gives of the start (any of its parts by flat_of_before) -/
def lw_At (p : Program) (s : State) (m : MethodId) (meth : Method) (c : Code) (b L : Nat) (xs : Nat → Int32) : Prop :=
  p.tables.exec = Jvm.exec ∧ c.code = code ∧ meth.sig.returnType = ret ∧ c.maxLocals = 7 ∧ s.vm.findClass R_law = some m.cls ∧ (∀ w ∈ lw_tbl, w.before #[Value.ref b] s = true) ∧ va_X b L xs s s.heap ∧ b < s.heap.size ∧ meth.locks = false ∧ (Jvm.Cond.and given_1 narrow_1).before #[Value.ref b] s = true
set_option maxHeartbeats 4000000 in
set_option maxRecDepth 100000 in
theorem ws_xg {s : State} {b : Nat} (hts : ∀ w ∈ lw_tbl, w.before #[Value.ref b] s = true) (hgv : (Jvm.Cond.and given_1 narrow_1).before #[Value.ref b] s = true) : ∃ ad : Nat → Nat, xg ad (fun q : Nat => s.heap.size ≤ q) s s.heap := by
  have hs := flat_of_before _ hgv
  have key : ∀ (k : Nat) (tx : String), (Cond.stringRef "RankRows" k tx).before #[Value.ref b] s = true → (Cond.exactly (.string "RankRows" k) "java/lang/String").before #[Value.ref b] s = true → ∃ a : Nat, vk_R "RankRows" k tx a s := by
    intro k tx h1 h2
    obtain ⟨a, c, cell, kk, g1, -⟩ := Cond.exactly_spec (args := #[Value.ref b]) (first := s) (o := none) (s := s) (idx := []) (t := .string "RankRows" k) (cls := "java/lang/String") h2
    exact ⟨a, vk_R.of h1 g1⟩
  obtain ⟨a25, h25⟩ := key 25 "n is not in 1 .. 200" (hts _ (by decide +kernel)) (hs _ (by decide +kernel))
  obtain ⟨a57, h57⟩ := key 57 "a rank is not below 0" (hts _ (by decide +kernel)) (hs _ (by decide +kernel))
  obtain ⟨a60, h60⟩ := key 60 "the rank falls on no entry" (hts _ (by decide +kernel)) (hs _ (by decide +kernel))
  obtain ⟨a62, h62⟩ := key 62 "which is not 0 or 1" (hts _ (by decide +kernel)) (hs _ (by decide +kernel))
  obtain ⟨a68, h68⟩ := key 68 "no entry stands there" (hts _ (by decide +kernel)) (hs _ (by decide +kernel))
  obtain ⟨a70, h70⟩ := key 70 "a weight is not in 0 .. 1000" (hts _ (by decide +kernel)) (hs _ (by decide +kernel))
  obtain ⟨a72, h72⟩ := key 72 "there is no such entry" (hts _ (by decide +kernel)) (hs _ (by decide +kernel))
  obtain ⟨a76, h76⟩ := key 76 "there would be too many entries" (hts _ (by decide +kernel)) (hs _ (by decide +kernel))
  refine ⟨fun k => if k = 25 then a25 else if k = 57 then a57 else if k = 60 then a60 else if k = 62 then a62 else if k = 68 then a68 else if k = 70 then a70 else if k = 72 then a72 else a76, ⟨vx_Zqof (hts _ (by decide +kernel)) (hts _ (by decide +kernel)) (hs _ (by decide +kernel)) (fun a h9 => Nat.not_le.mpr h9), vx_Zqof (hts _ (by decide +kernel)) (hts _ (by decide +kernel)) (hs _ (by decide +kernel)) (fun a h9 => Nat.not_le.mpr h9)⟩, ?_, ?_, ⟨va_Nc.of (hs _ (by decide +kernel)), va_Nc.of (hs _ (by decide +kernel)), va_Nc.of (hs _ (by decide +kernel))⟩, ?_⟩
  · intro q hq
    rcases List.mem_cons.mp hq with rfl | hq
    · exact va_Nw.of rfl (hts (.castable "java/lang/IllegalArgumentException" "java/lang/IllegalArgumentException") (by decide +kernel))
    rcases List.mem_cons.mp hq with rfl | hq
    · exact va_Nw.of rfl (hts (.castable "java/util/NoSuchElementException" "java/util/NoSuchElementException") (by decide +kernel))
    rcases List.mem_cons.mp hq with rfl | hq
    · exact va_Nw.of rfl (hts (.castable "java/lang/IllegalStateException" "java/lang/IllegalStateException") (by decide +kernel))
    cases hq
  · intro q hq
    rcases List.mem_cons.mp hq with rfl | hq
    · exact va_Nw.of rfl (hts (.declares ⟨"java/lang/RuntimeException", "<init>", "(Ljava/lang/String;)V"⟩) (by decide +kernel))
    rcases List.mem_cons.mp hq with rfl | hq
    · exact va_Nw.of rfl (hts (.declares ⟨"java/lang/Exception", "<init>", "(Ljava/lang/String;)V"⟩) (by decide +kernel))
    rcases List.mem_cons.mp hq with rfl | hq
    · exact va_Nw.of rfl (hts (.declares ⟨"java/lang/Throwable", "<init>", "(Ljava/lang/String;)V"⟩) (by decide +kernel))
    rcases List.mem_cons.mp hq with rfl | hq
    · exact va_Nw.of rfl (hts (.declares ⟨"java/lang/RuntimeException", "<init>", "()V"⟩) (by decide +kernel))
    rcases List.mem_cons.mp hq with rfl | hq
    · exact va_Nw.of rfl (hts (.declares ⟨"java/lang/Exception", "<init>", "()V"⟩) (by decide +kernel))
    rcases List.mem_cons.mp hq with rfl | hq
    · exact va_Nw.of rfl (hts (.declares ⟨"java/lang/Throwable", "<init>", "()V"⟩) (by decide +kernel))
    cases hq
  · intro q hq
    rcases List.mem_cons.mp hq with rfl | hq
    · exact h25
    rcases List.mem_cons.mp hq with rfl | hq
    · exact h57
    rcases List.mem_cons.mp hq with rfl | hq
    · exact h60
    rcases List.mem_cons.mp hq with rfl | hq
    · exact h62
    rcases List.mem_cons.mp hq with rfl | hq
    · exact h68
    rcases List.mem_cons.mp hq with rfl | hq
    · exact h70
    rcases List.mem_cons.mp hq with rfl | hq
    · exact h72
    rcases List.mem_cons.mp hq with rfl | hq
    · exact h76
    cases hq
set_option maxHeartbeats 4000000 in
set_option maxRecDepth 100000 in
/-- from the entry, for every script of at most 2560 ints, the law comes to its end with true -/
theorem whole_start {p : Program} {e : Env} {s : State} {m : MethodId} {below : List Frame} {meth : Method} {c : Code} (l : Launch) (hl9 : l.stackTraces = false) {b L : Nat} {xs : Nat → Int32} (hL : L ≤ 2560) (C0 : lw_At p s m meth c b L xs) : W p l e room_1 s m #[Value.ref b] below meth c s.heap [] 0 0 (lw_Z below #[Value.ref b] s) (entryFrame m ([Value.ref b] : List Value).toArray 7) := by
  obtain ⟨hx, hb, hr, hml, hown, hts0, hXs, hbl, hlocks, hgv⟩ := C0
  obtain ⟨ad, hX⟩ := ws_xg hts0 hgv
  have hts : ∀ w ∈ wsL2, w.before #[Value.ref b] s = true := fun w h => hts0 w (wsL2_in w h)
  obtain ⟨c0, i0, hK0⟩ := u_known (C := RX0) (T := TX0) (N := 4) (n := 4) hts0 (by decide +kernel) (hts0 (.instantiable RX0 4) (by decide +kernel))
  obtain ⟨c1, i1, hK1⟩ := u_known (C := RZ) (T := TZ) (N := 5) (n := 5) hts0 (fun w h => wsR_tbl w (wsZ0_in w h)) (hts0 (.instantiable RZ 5) (by decide +kernel))
  obtain ⟨kI, a1, a2⟩ := q_arr (t := .int) (hts0 (.arrayClass .int) (by decide +kernel))
  obtain ⟨kJ, b1, b2⟩ := q_arr (t := .long) (hts0 (.arrayClass .long) (by decide +kernel))
  obtain ⟨D, hDe⟩ : ∃ D : va_G, D = ((fun k => if k = 0 then c0 else c1), (fun k => if k = 0 then i0 else i1)) := ⟨_, rfl⟩
  have hK : va_K D vwD [(kI, .int), (kJ, .long)] s := by
    subst hDe
    refine ⟨fun k q hq => ?_, fun k q hq => ?_⟩
    · match k, hq with
      | 0, hq => cases hq; exact hK0
      | 1, hq => cases hq; exact hK1
      | k + 2, hq => simp [vwD] at hq
    · match k, hq with
      | 0, hq => cases hq; exact ⟨a1, a2⟩
      | 1, hq => cases hq; exact ⟨b1, b2⟩
      | k + 2, hq => simp at hq
  obtain ⟨A, hAe⟩ : ∃ A : Nat → Prop, A = fun q => s.heap.size ≤ q := ⟨_, rfl⟩
  rw [← hAe] at hX
  have hA : ∀ q, s.heap.size ≤ q → A q := by rw [hAe]; exact fun _ h => h
  have hbA : ¬ A b := by rw [hAe]; exact Nat.not_le.mpr hbl
  have hown : s.vm.findClass RL = some m.cls := hown
  have C1 : lwC p l s m c b L xs D ad kI kJ A := ⟨hx, hb, hml, hown, hts, hXs, hbl, hbA, hA, hK, hX, hl9⟩
  have SC : CallFix p m c cL_law 7 s #[Value.ref b] wsL2 RL := ⟨hx, hb, hml, hown, hts⟩
  have hP : va_P D vwD [] s.heap := fun k q h => by simp at h
  have hD : va_D A [] := ⟨fun i j p q h => by simp at h, fun k q h => by simp at h⟩
  have hS : va_S A s.heap s.heap [] := va_S.rf
  have hl := lv_entry ([.ref b]) (n := 7) (Nat.le_of_ble_eq_true rfl)
  rw [lg_entry_eq]
  generalize (lg_sl ([.ref b]) ++ List.replicate (7 - (lg_sl ([.ref b])).length) Slot.unset).toArray = ls at hl ⊢
  have hl : lv_has ls 7 [(0, .ref b)] := hl
  have hb : c.code = cL_law := hb
  refine va_new (ci := 0) (fs := [.null, .null, .null, .int 0]) (C := RX0) (T := TX0) (N := 4) hx hb hts0 (by decide +kernel) tyX0 tyX0_ok hown (hts0 (.classLink RL 8 RX0) (by decide +kernel)) (hts0 (.instantiable RX0 4) (by decide +kernel)) (hts0 (.initialized RX0) (by decide +kernel)) hK hP hD hS hA rfl (fun j hj => by rcases (show j = 0 ∨ j = 1 ∨ j = 2 ∨ j = 3 by omega) with rfl | rfl | rfl | rfl <;> rfl) (Nat.le_of_ble_eq_true rfl) (Nat.le_of_ble_eq_true rfl) dL_law_0 (fun h H hP hD hS => ?_)
  have hP : va_P D vwD [(h, .inr (0, [.null, .null, .null, .int 0]))] H := hP
  have hD : va_D A [(h, .inr (0, [.null, .null, .null, .int 0]))] := hD
  refine lv_dup hx hb dL_law_3 rfl ?_
  refine r_n (rm := ({ frames := 1, cells := 3, slots := 12000, locals := 40 } : Room)) (As := []) (rest := [.ref h]) (k_init l D ad kI kJ h) SC (cwI 0 hts (zg_law gL_law_X0_init) rfl rfl rfl (hts0 (.initialized RX0) (by decide +kernel)) (hts0 (.methodLink RL 40 yX0_init) (by decide +kernel)) (hts0 (.instanceMethod yX0_init) (by decide +kernel)) rfl (by decide +kernel) ⟨Nat.le_of_ble_eq_true rfl, Nat.le_of_ble_eq_true rfl⟩) hP hK hD hS hA hX rfl hl.1 rfl (Nat.le_of_ble_eq_true rfl) dL_law_4 ⟨Nat.le_of_ble_eq_true rfl, Nat.le_of_ble_eq_true rfl⟩ (fun u H locs hP hD hS => ?_)
  obtain ⟨r1, f1, s1⟩ := u
  have hP : va_P D vwD [(h, .inr (0, [.ref r1, .ref f1, .ref s1, .int (nI 0)])), (r1, .inl (kI, 4000, .inl (fun _ => 0))), (f1, .inl (kI, 4000, .inl (fun _ => 0))), (s1, .inl (kI, 4000, .inl (fun _ => 0)))] H := hP
  have hD : va_D A [(h, .inr (0, [.ref r1, .ref f1, .ref s1, .int (nI 0)])), (r1, .inl (kI, 4000, .inl (fun _ => 0))), (f1, .inl (kI, 4000, .inl (fun _ => 0))), (s1, .inl (kI, 4000, .inl (fun _ => 0)))] := hD
  refine lv_astore_n (lv' := [(1, .ref h), (0, .ref b)]) hx hb dL_law_7 rfl hl (by decide) rfl (fun ls hl => ?_)
  refine va_new (ci := 1) (fs := [.null, .null, .null, .int 0, .int 0]) (C := RZ) (T := TZ) (N := 5) hx hb hts0 (fun w h => wsR_tbl w (wsZ0_in w h)) tyZ tyZ_ok hown (hts0 (.classLink RL 41 RZ) (by decide +kernel)) (hts0 (.instantiable RZ 5) (by decide +kernel)) (hts0 (.initialized RZ) (by decide +kernel)) hK hP hD hS hA rfl (fun j hj => by rcases (show j = 0 ∨ j = 1 ∨ j = 2 ∨ j = 3 ∨ j = 4 by omega) with rfl | rfl | rfl | rfl | rfl <;> rfl) (Nat.le_of_ble_eq_true rfl) (Nat.le_of_ble_eq_true rfl) dL_law_8 (fun hm H hP hD hS => ?_)
  have hP : va_P D vwD [(h, .inr (0, [.ref r1, .ref f1, .ref s1, .int (nI 0)])), (r1, .inl (kI, 4000, .inl (fun _ => 0))), (f1, .inl (kI, 4000, .inl (fun _ => 0))), (s1, .inl (kI, 4000, .inl (fun _ => 0))), (hm, .inr (1, [.null, .null, .null, .int 0, .int 0]))] H := hP
  have hD : va_D A [(h, .inr (0, [.ref r1, .ref f1, .ref s1, .int (nI 0)])), (r1, .inl (kI, 4000, .inl (fun _ => 0))), (f1, .inl (kI, 4000, .inl (fun _ => 0))), (s1, .inl (kI, 4000, .inl (fun _ => 0))), (hm, .inr (1, [.null, .null, .null, .int 0, .int 0]))] := hD
  refine lv_dup hx hb dL_law_11 rfl ?_
  refine r_n (rm := ({ frames := 1, cells := 3, slots := 12000, locals := 40 } : Room)) (As := []) (rest := [.ref hm]) (j_init l D ad kI kJ (h, .inr (0, [.ref r1, .ref f1, .ref s1, .int (nI 0)])) (r1, .inl (kI, 4000, .inl (fun _ => 0))) (f1, .inl (kI, 4000, .inl (fun _ => 0))) (s1, .inl (kI, 4000, .inl (fun _ => 0))) hm) SC (cwI 0 hts gL2_Z_init rfl rfl rfl (hts0 (.initialized RZ) (by decide +kernel)) (hts0 (.methodLink RL 43 yZ_init) (by decide +kernel)) (hts0 (.instanceMethod yZ_init) (by decide +kernel)) rfl (by decide +kernel) ⟨Nat.le_of_ble_eq_true rfl, Nat.le_of_ble_eq_true rfl⟩) hP hK hD hS hA hX rfl hl.1 rfl (Nat.le_of_ble_eq_true rfl) dL_law_12 ⟨Nat.le_of_ble_eq_true rfl, Nat.le_of_ble_eq_true rfl⟩ (fun u H locs hP hD hS => ?_)
  obtain ⟨rm, fm, sm⟩ := u
  have hP : va_P D vwD [(h, .inr (0, [.ref r1, .ref f1, .ref s1, .int (nI 0)])), (r1, .inl (kI, 4000, .inl (fun _ => 0))), (f1, .inl (kI, 4000, .inl (fun _ => 0))), (s1, .inl (kI, 4000, .inl (fun _ => 0))), (hm, .inr (1, [.ref rm, .ref fm, .ref sm, .int (nI 0), .int 0])), (rm, .inl (kI, 4000, .inl (fun _ => 0))), (fm, .inl (kI, 4000, .inl (fun _ => 0))), (sm, .inl (kI, 4000, .inl (fun _ => 0)))] H := hP
  have hD : va_D A [(h, .inr (0, [.ref r1, .ref f1, .ref s1, .int (nI 0)])), (r1, .inl (kI, 4000, .inl (fun _ => 0))), (f1, .inl (kI, 4000, .inl (fun _ => 0))), (s1, .inl (kI, 4000, .inl (fun _ => 0))), (hm, .inr (1, [.ref rm, .ref fm, .ref sm, .int (nI 0), .int 0])), (rm, .inl (kI, 4000, .inl (fun _ => 0))), (fm, .inl (kI, 4000, .inl (fun _ => 0))), (sm, .inl (kI, 4000, .inl (fun _ => 0)))] := hD
  refine lv_astore_n (lv' := [(2, .ref hm), (1, .ref h), (0, .ref b)]) hx hb dL_law_15 rfl hl (by decide) rfl (fun ls hl => ?_)
  refine lv_iconst (v := 1) hx hb dL_law_16 (by decide) ?_
  refine q_newl hx hb (hts0 (.arrayClass .long) (by decide +kernel)) hK hP hD hS hA (Nat.le_of_ble_eq_true rfl) (Nat.le_of_ble_eq_true rfl) dL_law_17 (fun o H hP hD hS => ?_)
  have hP := hP.sub (ws' := wL h r1 f1 s1 o hm rm fm sm kI kJ (fun _ => 0) (fun _ => 0) (fun _ => 0) 0 (fun _ => 0) 0) [0, 1, 2, 3, 8, 4, 5, 6, 7] rfl
  have hD := hD.sub (ws' := wL h r1 f1 s1 o hm rm fm sm kI kJ (fun _ => 0) (fun _ => 0) (fun _ => 0) 0 (fun _ => 0) 0) [0, 1, 2, 3, 8, 4, 5, 6, 7] (by decide) rfl
  refine lv_astore_n (lv' := [(3, .ref o), (2, .ref hm), (1, .ref h), (0, .ref b)]) hx hb dL_law_19 rfl hl (by decide) rfl (fun ls hl => ?_)
  refine lv_iconst (v := 0) hx hb dL_law_20 (by decide) ?_
  refine lv_istore (lv' := [(4, .int 0), (3, .ref o), (2, .ref hm), (1, .ref h), (0, .ref b)]) hx hb dL_law_21 hl (by decide) rfl (fun ls hl => ?_)
  have hl : lv_has ls 7 [(4, .int (nI (5 * 0))), (3, .ref o), (2, .ref hm), (1, .ref h), (0, .ref b)] := hl
  refine lw_loop C1 hL h r1 f1 s1 o hm rm fm sm (fun H locs cells slots ls hS hc hs => ?_) 513 0 (by omega) (by omega) (fun _ => 0) (fun _ => 0) (fun _ => 0) 0 (fun _ => 0) 0 H locs ls _ _ (rk_ok_0 _) (Nat.le_of_ble_eq_true rfl) (Nat.le_of_ble_eq_true rfl) hP hD hS hl
  refine va_forget (fun q hq => by have h9 := hS.2.2 q hq; rw [hAe] at h9; exact h9) ?_
  refine lv_iconst (v := 1) hx hb dL_law_591 (by decide) ?_
  refine W.widen (k := 1047) (n := 32286) hc hs ?_
  exact lw_ret hx hb hr hlocks dL_law_592
set_option maxHeartbeats 4000000 in
theorem lw_walk (l : Launch) (hl9 : l.stackTraces = false) (b : Addr) (xs : List Int32) : MetFree l x (headSpec (Jvm.Cond.code x code maxLocals ret :: tables_1) room_1) (lw_P b xs) (fun _ _ _ _ _ => True) lw_Q := by
  refine MetFree.of_bodyS (code := code) (maxLocals := maxLocals) (ret := ret) (by decide) ?_ ?_
  · intro args s m h hn
    obtain ⟨meth, c, h1, h2, h3, h4, h5, h6, -, -⟩ := Cond.code_spec hn (atoms_spec (ws := Jvm.Cond.code x code maxLocals ret :: tables_1) h _ List.mem_cons_self)
    exact ⟨meth, c, h1, h2, h3, h4, h5, h6⟩
  · intro p e s m args below meth c s₁ B hml0 hP _
    obtain ⟨rfl, hx, hbd, hgv⟩ := hP
    obtain ⟨scr, harrAt, hlist, hof, hsmall⟩ := hx
    obtain ⟨hcb, hkn, -, -⟩ := State.arrayAt?_spec harrAt
    have hown : s.vm.findClass R_law = some m.cls := findClass_of_methodNamed B.named
    have hts0 : ∀ c ∈ (Jvm.Cond.code x code maxLocals ret :: tables_1), c.before #[Value.ref b] s = true := atoms_spec (ws := Jvm.Cond.code x code maxLocals ret :: tables_1) B.pre
    have hts : ∀ w ∈ lw_tbl, w.before #[Value.ref b] s = true := k2_hts_sels lw_privs (fun w hw => hts0 w (List.mem_cons_of_mem _ hw)) lw_privs_ok
    have hml : c.maxLocals = 7 := B.maxLocals_eq (hts0 _ List.mem_cons_self)
    have X₀ : Stand p l e room_1 s m #[Value.ref b] below meth c s₁ [] 0 0 := Stand.of_body B
    have hh0 : s₁.heap = s.heap := by rw [B.state]; rfl
    have hsz : scr.slots.size = xs.length := by rw [← Array.length_toList, hlist, List.length_map]
    have hval : ∀ j : Nat, j < xs.length → scr.slots[j]? = some (.int (xs.getD j 0)) := fun j hj => by
      rw [← Array.getElem?_toList, hlist]
      simp [hj]
    have hbl : b < s.heap.size := (Array.getElem?_eq_some_iff.mp hcb).1
    have hX : va_X b xs.length (fun j => xs.getD j 0) s s.heap := ⟨scr, hcb, hof, hkn, hsz, hval⟩
    have K : W p l e room_1 s m #[Value.ref b] below meth c s₁.heap [] 0 0 (lw_Z below #[Value.ref b] s) (entryFrame m ([Value.ref b] : List Value).toArray 7) := by
      rw [hh0]
      exact whole_start l hl9 hbd ⟨B.exec, B.bytes, B.returns, hml, hown, hts, hX, hbl, B.notSynchronized, hgv⟩
    obtain ⟨t, a1, o, b1, b2, b3⟩ := K s₁ rfl X₀
    exact ⟨t, o, a1, b1, b2, b3⟩
theorem lw_pre_spec {args : Array Value} {s : State} (h : (Jvm.Cond.and given_1 narrow_1).before args s = true) (hr : rest_1_c.before args s = true) : ∃ (b : Addr) (xs : List Int32), lw_P b xs args s := by
  have hs := flat_of_before _ h
  have hq := flat_of_before _ hr
  have hc : (Cond.count 1).before args s = true := hs _ (by decide +kernel)
  have harr : (Cond.arrayOf (.arg 0) .int).before args s = true := hs _ (by decide +kernel)
  have hle : (Cond.le (.length (.arg 0)) (.int 2560)).before args s = true := hs _ (by decide +kernel)
  have hlen : (Cond.isInt (.length (.arg 0))).before args s = true := hq _ (by decide +kernel)
  have hall : (Cond.all (.arg 0) (.isInt (.elem (.arg 0) (.index 0)))).before args s = true := hq _ (by decide +kernel)
  obtain ⟨b, xs, hb, hx⟩ := State.ints_of_pre rfl harr hlen hall
  have hsm : xs.length < 2 ^ 31 := hx.choose_spec.2.2.2
  have hev : (Term.length (.arg 0)).eval args s none [] s = some (.int xs.length.toInt32) := hx.length_eval hb
  have hv := Cond.le_ints hev (show (Term.int 2560).eval args s none [] s = some (.int 2560) from rfl)
  have hd : xs.length.toInt32 ≤ 2560 := by
    simpa [Cond.before, Cond.holds, hv] using hle
  have hN : xs.length ≤ 2560 := (Int32.ofNat_le_ofNat hsm (by decide)).mp (show Int32.ofNat xs.length ≤ Int32.ofNat 2560 from hd)
  exact ⟨b, xs, Cond.one_arg hc (show args[0]? = some (.ref b) from hb), hx, hN, h⟩
theorem lw_comes (l : Launch) (hl9 : l.stackTraces = false) : Comes l x (Jvm.Cond.code x code maxLocals ret :: tables_1) room_1 (fun tb e args s => Calls_1 tb e args s ∧ rest_1 tb e args s ∧ Pre_1 tb e args s)
    (fun _ _ args s o t => lw_Q args s o t) := by
  intro p e ha hc hk s m args below hf hfit hheap happ hpre
  obtain ⟨b, xs, hP⟩ := lw_pre_spec hpre.2.2 hpre.2.1
  obtain ⟨k, o, h1, h2, h3, hQ⟩ := lw_walk l hl9 b xs p e ha hc hk s m args below hf ((Spec.applies_iff_loose hf).mp happ).1 hP trivial
  exact ⟨k, o, h1, h2, h3, hQ⟩
theorem lw_frame {s t : State} {o : Outcome} {args : Array Value} (h : Framed s o t [] 1047 32286) :
    Framed s o t (fieldLocs frame_1_writes args s ++ arrayLocs frame_1_arrays args s ++ staticLocs frame_1_statics s) 1047 32286 := h
theorem lw_limb (L : Cond) (hL : ∀ (args : Array Value) (s t : State), L.after args s (.returned (some (.int 1))) t = true) :
    ArmFor flags0 classFile x code maxLocals ret World_1 tables_1 room_1 Calls_1 rest_1 Pre_1
      (fun tb e a s o t => postC L tb e a s o t ∧ Framed s o t (fieldLocs frame_1_writes a s ++ arrayLocs frame_1_arrays a s ++ staticLocs frame_1_statics s) 1047 32286) := by
  intro l hfl _ _ p e ha hc hk s m args below hf hfit hheap happ hpre
  obtain ⟨k, o, h1, h2, h3, rfl, hF⟩ := lw_comes l (by show (!l.flags.contains Jvm.noTraceFlag) = false; rw [hfl]; decide +kernel) p e ha hc hk s m args below hf hfit hheap happ hpre
  exact ⟨k, _, h1, h2, h3, hL args s _, lw_frame hF⟩
theorem i_vc : Claimed_1_1 ∧ Claimed_1_2 := ⟨lw_limb limb_1_1 (fun args s t => by simp [limb_1_1, Cond.after, Cond.holds, Cond.value]), lw_limb limb_1_2 (fun args s t => Cond.after_iff.mpr (by
  first | (rw [show limb_1_2 = Cond.eq .result (.int 1) from rfl, Cond.eq_ints (x := 1) (y := 1) rfl rfl]; simp; done) | (simp [limb_1_2, Cond.value, Term.eval]; done)))⟩
