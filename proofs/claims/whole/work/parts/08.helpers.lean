/-! The class: its private helpers, and entries -/
set_option maxHeartbeats 4000000 in
set_option maxRecDepth 100000 in
theorem k_cw_ok (l : Launch) (D : va_G) (ad : Nat → Nat) (cI cJ : ClassId) (w0 : va_W) (a b : Int32) (ha : rk_W a) (hb0 : rk_W b) : uV l yX0_checkWeights wsX0_checkWeights ({ frames := 0, cells := 0, slots := 0, locals := 0 } : Room) D ad [(cI, .int), (cJ, .long)] [.int a, .int b] (w0) (w0) 0 0 := by
  unfold uV
  refine st_M (Qc := qV D [(cI, .int), (cJ, .long)] w0) (mc := 0) (ms := 0) (cc := cX0_checkWeights) (maxL := 2) (ret := none) [.int a, .int b] (by decide) rfl (Nat.le_of_ble_eq_true rfl) (fun p en s m below meth c A ls hx hb hr hlocks hml hts hown hA hS hP hK hD hX hl => ?_)
  have hown : s.vm.findClass RX0 = some m.cls := hown
  have hl : lv_has ls 2 [(0, .int a), (1, .int b)] := hl
  have SC : CallFix p m c cX0_checkWeights 2 s ([.int a, .int b] : List Value).toArray wsX0_checkWeights RX0 := ⟨hx, hb, hml, hown, hts⟩
  refine lv_iload_n hx hb dX0_checkWeights_0 rfl (lv_at hl 0 rfl) ?_
  refine lv_if_lt (tgt := 22) hx hb dX0_checkWeights_1 (by decide) (fun h9 => absurd h9 (ha.1)) (fun _ => ?_)
  refine lv_iload_n hx hb dX0_checkWeights_4 rfl (lv_at hl 0 rfl) ?_
  refine lv_sipush (v := 1000) hx hb dX0_checkWeights_5 (by decide) ?_
  refine lv_icmp_gt (tgt := 22) hx hb dX0_checkWeights_8 (by decide) (fun h9 => absurd h9 (ha.2)) (fun _ => ?_)
  refine lv_iload_n hx hb dX0_checkWeights_11 rfl (lv_at hl 1 rfl) ?_
  refine lv_if_lt (tgt := 22) hx hb dX0_checkWeights_12 (by decide) (fun h9 => absurd h9 (hb0.1)) (fun _ => ?_)
  refine lv_iload_n hx hb dX0_checkWeights_15 rfl (lv_at hl 1 rfl) ?_
  refine lv_sipush (v := 1000) hx hb dX0_checkWeights_16 (by decide) ?_
  refine lv_icmp_le (tgt := 32) hx hb dX0_checkWeights_19 (by decide) (fun _ => ?_) (fun h9 => absurd (Int32.not_lt.mp hb0.2) h9)
  exact e_v hx hb hr hlocks hP hK hD hS dX0_checkWeights_32 (Nat.le_of_ble_eq_true rfl) (Nat.le_of_ble_eq_true rfl)
set_option maxHeartbeats 4000000 in
set_option maxRecDepth 100000 in
theorem k_cw_bad (l : Launch) (D : va_G) (ad : Nat → Nat) (cI cJ : ClassId) (w0 : va_W) (a b : Int32) (hl9 : l.stackTraces = false) (hno : ¬ (rk_W a ∧ rk_W b)) : uX l yX0_checkWeights wsX0_checkWeights ({ frames := 6, cells := 1, slots := 6, locals := 100 } : Room) D ad [(cI, .int), (cJ, .long)] [.int a, .int b] (w0) 1 := by
  unfold uX
  refine st_T (Qc := qX D [(cI, .int), (cJ, .long)] w0) (XC := xT D [(cI, .int), (cJ, .long)] w0 1) (mc := 1) (ms := 6) (cc := cX0_checkWeights) (maxL := 2) (ret := none) [.int a, .int b] (by decide) rfl (Nat.le_of_ble_eq_true rfl) (fun p en s m below meth c A ls hex hx hb hr hlocks hml hts hown hA hS hP hK hD hX hl => ?_)
  have hown : s.vm.findClass RX0 = some m.cls := hown
  have hl : lv_has ls 2 [(0, .int a), (1, .int b)] := hl
  have SC : CallFix p m c cX0_checkWeights 2 s ([.int a, .int b] : List Value).toArray wsX0_checkWeights RX0 := ⟨hx, hb, hml, hown, hts⟩
  have hthrow : ∀ ls : Array Slot, lv_has ls 2 [(0, .int a), (1, .int b)] → W p l en ({ frames := 6, cells := 1, slots := 6, locals := 100 } : Room) s m ([.int a, .int b] : List Value).toArray below meth c s.heap [] 0 0 (vx_MQ below (qX D [(cI, .int), (cJ, .long)] w0 A) (xT D [(cI, .int), (cJ, .long)] w0 1 A) ([.int a, .int b] : List Value).toArray s 1 6 A) (F0 m 22 ls []) := by
    intro ls hl
    exact vx_throwS (own := RX0) (cls := "java/lang/IllegalArgumentException") (names := ["java/lang/RuntimeException", "java/lang/Exception"]) hx hb hl9 hown (by decide +kernel) (by decide +kernel) (hts (.classLink RX0 23 "java/lang/IllegalArgumentException") (by decide +kernel)) (hts (.initialized "java/lang/IllegalArgumentException") (by decide +kernel)) (hX.2.2.2.2 _ (List.mem_of_getElem? (i := 5) rfl)) (vx_hat (L := vx_atS RX0 27 "java/lang/IllegalArgumentException" ["java/lang/RuntimeException", "java/lang/Exception"]) (B := [.castable "java/lang/IllegalArgumentException" "java/lang/IllegalArgumentException", .declares ⟨"java/lang/RuntimeException", "<init>", "(Ljava/lang/String;)V"⟩, .declares ⟨"java/lang/Exception", "<init>", "(Ljava/lang/String;)V"⟩, .declares ⟨"java/lang/Throwable", "<init>", "(Ljava/lang/String;)V"⟩]) (fun w hw => hts w ((by decide +kernel : ∀ w ∈ (vx_atS RX0 27 "java/lang/IllegalArgumentException" ["java/lang/RuntimeException", "java/lang/Exception"]).filter goodWord, w ∈ wsX0_checkWeights) w hw)) (by decide +kernel) (vx_c (va_Nw.use rfl (hX.2.1 _ (List.mem_of_getElem? (i := 0) rfl))) (vx_c (va_Nw.use rfl (hX.2.2.1 _ (List.mem_of_getElem? (i := 0) rfl))) (vx_c (va_Nw.use rfl (hX.2.2.1 _ (List.mem_of_getElem? (i := 1) rfl))) (vx_c (va_Nw.use rfl (hX.2.2.1 _ (List.mem_of_getElem? (i := 2) rfl))) (vx_n)))))) (by decide +kernel) hX.1.1 hX.1.2 hS (hl.1.trans hml.symm) dX0_checkWeights_22 dX0_checkWeights_25 dX0_checkWeights_26 dX0_checkWeights_28 dX0_checkWeights_31 (fun x h => (hex x h).elim) (Nat.le_of_ble_eq_true rfl) (Nat.le_of_ble_eq_true rfl) (Nat.le_of_ble_eq_true rfl) (Nat.le_of_ble_eq_true rfl) hlocks (r_t (rfl) (by decide) (by decide +kernel) hP hK hD hS) hS.2.2 (Nat.le_of_ble_eq_true rfl) (Nat.le_of_ble_eq_true rfl)
  refine lv_iload_n hx hb dX0_checkWeights_0 rfl (lv_at hl 0 rfl) ?_
  refine lv_if_lt (tgt := 22) hx hb dX0_checkWeights_1 (by decide) (fun h1 => ?_) (fun h1 => ?_)
  · exact hthrow ls hl
  · refine lv_iload_n hx hb dX0_checkWeights_4 rfl (lv_at hl 0 rfl) ?_
    refine lv_sipush (v := 1000) hx hb dX0_checkWeights_5 (by decide) ?_
    refine lv_icmp_gt (tgt := 22) hx hb dX0_checkWeights_8 (by decide) (fun h2 => ?_) (fun h2 => ?_)
    · exact hthrow ls hl
    · refine lv_iload_n hx hb dX0_checkWeights_11 rfl (lv_at hl 1 rfl) ?_
      refine lv_if_lt (tgt := 22) hx hb dX0_checkWeights_12 (by decide) (fun h3 => ?_) (fun h3 => ?_)
      · exact hthrow ls hl
      · refine lv_iload_n hx hb dX0_checkWeights_15 rfl (lv_at hl 1 rfl) ?_
        refine lv_sipush (v := 1000) hx hb dX0_checkWeights_16 (by decide) ?_
        refine lv_icmp_le (tgt := 32) hx hb dX0_checkWeights_19 (by decide) (fun h9 => absurd ⟨⟨h1, h2⟩, h3, Int32.not_lt.mpr h9⟩ hno) (fun h4 => ?_)
        exact hthrow ls hl
set_option maxHeartbeats 4000000 in
set_option maxRecDepth 100000 in
theorem k_ce_ok (l : Launch) (D : va_G) (ad : Nat → Nat) (cI cJ : ClassId) (tl : va_W) (h r1 f1 s1 : Nat) (R F S : Nat → Int32) (cn : Nat) (ee : Int32) (he : rk_E ee cn) : uV l yX0_checkEntry wsX0_checkEntry ({ frames := 0, cells := 0, slots := 0, locals := 0 } : Room) D ad [(cI, .int), (cJ, .long)] [.ref h, .int ee] (wX h r1 f1 s1 cI R F S cn tl) (wX h r1 f1 s1 cI R F S cn tl) 0 0 := by
  unfold uV
  refine st_M (Qc := qV D [(cI, .int), (cJ, .long)] (wX h r1 f1 s1 cI R F S cn tl)) (mc := 0) (ms := 0) (cc := cX0_checkEntry) (maxL := 2) (ret := none) [.ref h, .int ee] (by decide) rfl (Nat.le_of_ble_eq_true rfl) (fun p en s m below meth c A ls hx hb hr hlocks hml hts hown hA hS hP hK hD hX hl => ?_)
  have hown : s.vm.findClass RX0 = some m.cls := hown
  have hl : lv_has ls 2 [(0, .ref h), (1, .int ee)] := hl
  have hu : ∀ w ∈ u_ws RX0 TX0 4, w ∈ wsX0_checkEntry := by decide +kernel
  have hF19 := hts (.fieldLink RX0 19 "RankRows" "count" "I") (by decide +kernel)
  have SC : CallFix p m c cX0_checkEntry 2 s ([.ref h, .int ee] : List Value).toArray wsX0_checkEntry RX0 := ⟨hx, hb, hml, hown, hts⟩
  refine lv_iload_n hx hb dX0_checkEntry_0 rfl (lv_at hl 1 rfl) ?_
  refine lv_if_lt (tgt := 12) hx hb dX0_checkEntry_1 (by decide) (fun h9 => absurd h9 (he.1)) (fun _ => ?_)
  refine lv_iload_n hx hb dX0_checkEntry_4 rfl (lv_at hl 1 rfl) ?_
  refine lv_aload_n hx hb dX0_checkEntry_5 rfl (lv_at hl 0 rfl) ?_
  refine va_get (D := D) (ci := 0) (v := .int (nI cn)) (C := RX0) (T := TX0) (N := 4) hx hb hts hu hown hK hP 0 rfl rfl 3 (by decide) hF19 (fun _ h9 => h9) rfl dX0_checkEntry_6 ?_
  refine lv_icmp_lt (tgt := 22) hx hb dX0_checkEntry_9 (by decide) (fun _ => ?_) (fun h9 => absurd (he.2) h9)
  exact e_v hx hb hr hlocks hP hK hD hS dX0_checkEntry_22 (Nat.le_of_ble_eq_true rfl) (Nat.le_of_ble_eq_true rfl)
set_option maxHeartbeats 4000000 in
set_option maxRecDepth 100000 in
theorem k_ce_bad (l : Launch) (D : va_G) (ad : Nat → Nat) (cI cJ : ClassId) (tl : va_W) (h r1 f1 s1 : Nat) (R F S : Nat → Int32) (cn : Nat) (ee : Int32) (hl9 : l.stackTraces = false) (hno : ¬ rk_E ee cn) : uX l yX0_checkEntry wsX0_checkEntry ({ frames := 6, cells := 1, slots := 6, locals := 100 } : Room) D ad [(cI, .int), (cJ, .long)] [.ref h, .int ee] (wX h r1 f1 s1 cI R F S cn tl) 2 := by
  unfold uX
  refine st_T (Qc := qX D [(cI, .int), (cJ, .long)] (wX h r1 f1 s1 cI R F S cn tl)) (XC := xT D [(cI, .int), (cJ, .long)] (wX h r1 f1 s1 cI R F S cn tl) 2) (mc := 1) (ms := 6) (cc := cX0_checkEntry) (maxL := 2) (ret := none) [.ref h, .int ee] (by decide) rfl (Nat.le_of_ble_eq_true rfl) (fun p en s m below meth c A ls hex hx hb hr hlocks hml hts hown hA hS hP hK hD hX hl => ?_)
  have hown : s.vm.findClass RX0 = some m.cls := hown
  have hl : lv_has ls 2 [(0, .ref h), (1, .int ee)] := hl
  have hu : ∀ w ∈ u_ws RX0 TX0 4, w ∈ wsX0_checkEntry := by decide +kernel
  have hF19 := hts (.fieldLink RX0 19 "RankRows" "count" "I") (by decide +kernel)
  have SC : CallFix p m c cX0_checkEntry 2 s ([.ref h, .int ee] : List Value).toArray wsX0_checkEntry RX0 := ⟨hx, hb, hml, hown, hts⟩
  have hthrow : ∀ ls : Array Slot, lv_has ls 2 [(0, .ref h), (1, .int ee)] → W p l en ({ frames := 6, cells := 1, slots := 6, locals := 100 } : Room) s m ([.ref h, .int ee] : List Value).toArray below meth c s.heap [] 0 0 (vx_MQ below (qX D [(cI, .int), (cJ, .long)] (wX h r1 f1 s1 cI R F S cn tl) A) (xT D [(cI, .int), (cJ, .long)] (wX h r1 f1 s1 cI R F S cn tl) 2 A) ([.ref h, .int ee] : List Value).toArray s 1 6 A) (F0 m 12 ls []) := by
    intro ls hl
    exact nx_throw hx hb hl9 hown (hts (.classLink RX0 55 "java/util/NoSuchElementException") (by decide +kernel)) (hts (.initialized "java/util/NoSuchElementException") (by decide +kernel)) (hX.2.2.2.2 _ (List.mem_of_getElem? (i := 6) rfl)) (vx_hat (L := nx_at) (B := [.castable "java/util/NoSuchElementException" "java/util/NoSuchElementException", .declares ⟨"java/lang/RuntimeException", "<init>", "(Ljava/lang/String;)V"⟩, .declares ⟨"java/lang/Exception", "<init>", "(Ljava/lang/String;)V"⟩, .declares ⟨"java/lang/Throwable", "<init>", "(Ljava/lang/String;)V"⟩]) (fun w hw => hts w ((by decide +kernel : ∀ w ∈ (nx_at).filter goodWord, w ∈ wsX0_checkEntry) w hw)) (by decide +kernel) (vx_c (va_Nw.use rfl (hX.2.1 _ (List.mem_of_getElem? (i := 1) rfl))) (vx_c (va_Nw.use rfl (hX.2.2.1 _ (List.mem_of_getElem? (i := 0) rfl))) (vx_c (va_Nw.use rfl (hX.2.2.1 _ (List.mem_of_getElem? (i := 1) rfl))) (vx_c (va_Nw.use rfl (hX.2.2.1 _ (List.mem_of_getElem? (i := 2) rfl))) (vx_n)))))) (by decide +kernel) hX.1.1 hX.1.2 hS (hl.1.trans hml.symm) dX0_checkEntry_12 dX0_checkEntry_15 dX0_checkEntry_16 dX0_checkEntry_18 dX0_checkEntry_21 (fun x h => (hex x h).elim) (Nat.le_of_ble_eq_true rfl) (Nat.le_of_ble_eq_true rfl) (Nat.le_of_ble_eq_true rfl) (Nat.le_of_ble_eq_true rfl) hlocks (r_t (rfl) (by decide) (by decide +kernel) hP hK hD hS) hS.2.2 (Nat.le_of_ble_eq_true rfl) (Nat.le_of_ble_eq_true rfl)
  refine lv_iload_n hx hb dX0_checkEntry_0 rfl (lv_at hl 1 rfl) ?_
  refine lv_if_lt (tgt := 12) hx hb dX0_checkEntry_1 (by decide) (fun h1 => ?_) (fun h1 => ?_)
  · exact hthrow ls hl
  · refine lv_iload_n hx hb dX0_checkEntry_4 rfl (lv_at hl 1 rfl) ?_
    refine lv_aload_n hx hb dX0_checkEntry_5 rfl (lv_at hl 0 rfl) ?_
    refine va_get (D := D) (ci := 0) (v := .int (nI cn)) (C := RX0) (T := TX0) (N := 4) hx hb hts hu hown hK hP 0 rfl rfl 3 (by decide) hF19 (fun _ h9 => h9) rfl dX0_checkEntry_6 ?_
    refine lv_icmp_lt (tgt := 22) hx hb dX0_checkEntry_9 (by decide) (fun h9 => absurd ⟨h1, h9⟩ hno) (fun h2 => ?_)
    exact hthrow ls hl
set_option maxHeartbeats 4000000 in
set_option maxRecDepth 100000 in
theorem k_co_ok (l : Launch) (D : va_G) (ad : Nat → Nat) (cI cJ : ClassId) (tl : va_W) (h r1 f1 s1 : Nat) (R F S : Nat → Int32) (cn : Nat) (ee : Int32) (he : ee = -1 ∨ rk_E ee cn) : uV l yX0_checkEntryOrNone wsX0_checkEntryOrNone ({ frames := 1, cells := 0, slots := 0, locals := 40 } : Room) D ad [(cI, .int), (cJ, .long)] [.ref h, .int ee] (wX h r1 f1 s1 cI R F S cn tl) (wX h r1 f1 s1 cI R F S cn tl) 0 0 := by
  unfold uV
  refine st_M (Qc := qV D [(cI, .int), (cJ, .long)] (wX h r1 f1 s1 cI R F S cn tl)) (mc := 0) (ms := 0) (cc := cX0_checkEntryOrNone) (maxL := 2) (ret := none) [.ref h, .int ee] (by decide) rfl (Nat.le_of_ble_eq_true rfl) (fun p en s m below meth c A ls hx hb hr hlocks hml hts hown hA hS hP hK hD hX hl => ?_)
  have hown : s.vm.findClass RX0 = some m.cls := hown
  have hl : lv_has ls 2 [(0, .ref h), (1, .int ee)] := hl
  have SC : CallFix p m c cX0_checkEntryOrNone 2 s ([.ref h, .int ee] : List Value).toArray wsX0_checkEntryOrNone RX0 := ⟨hx, hb, hml, hown, hts⟩
  refine lv_iload_n hx hb dX0_checkEntryOrNone_0 rfl (lv_at hl 1 rfl) ?_
  refine lv_iconst (v := (-1)) hx hb dX0_checkEntryOrNone_1 (by decide) ?_
  refine lv_icmp_eq (tgt := 10) hx hb dX0_checkEntryOrNone_2 (by decide) (fun h1 => ?_) (fun h1 => ?_)
  · exact e_v hx hb hr hlocks hP hK hD hS dX0_checkEntryOrNone_10 (Nat.le_of_ble_eq_true rfl) (Nat.le_of_ble_eq_true rfl)
  · refine lv_aload_n hx hb dX0_checkEntryOrNone_5 rfl (lv_at hl 0 rfl) ?_
    refine lv_iload_n hx hb dX0_checkEntryOrNone_6 rfl (lv_at hl 1 rfl) ?_
    refine r_v (rm := ({ frames := 0, cells := 0, slots := 0, locals := 0 } : Room)) (As := [.int ee]) (rest := []) (k_ce_ok l D ad cI cJ tl h r1 f1 s1 R F S cn ee (he.resolve_left h1)) SC (cwV 1 hts gX0_checkEntryOrNone_X0_checkEntry rfl rfl rfl (by decide +kernel) ⟨Nat.le_of_ble_eq_true rfl, Nat.le_of_ble_eq_true rfl⟩) hP hK hD hS hA hX 0 rfl rfl rfl hl.1 rfl (Nat.le_of_ble_eq_true rfl) dX0_checkEntryOrNone_7 ⟨Nat.le_of_ble_eq_true rfl, Nat.le_of_ble_eq_true rfl⟩ (fun H locs hP hD hS => ?_)
    have hP : va_P D vwD (wX h r1 f1 s1 cI R F S cn tl) H := hP
    have hD : va_D A (wX h r1 f1 s1 cI R F S cn tl) := hD
    exact e_v hx hb hr hlocks hP hK hD hS dX0_checkEntryOrNone_10 (Nat.le_of_ble_eq_true rfl) (Nat.le_of_ble_eq_true rfl)
set_option maxHeartbeats 4000000 in
set_option maxRecDepth 100000 in
theorem k_co_bad (l : Launch) (D : va_G) (ad : Nat → Nat) (cI cJ : ClassId) (tl : va_W) (h r1 f1 s1 : Nat) (R F S : Nat → Int32) (cn : Nat) (ee : Int32) (hl9 : l.stackTraces = false) (hno : ¬ (ee = -1 ∨ rk_E ee cn)) : uX l yX0_checkEntryOrNone wsX0_checkEntryOrNone ({ frames := 7, cells := 1, slots := 6, locals := 130 } : Room) D ad [(cI, .int), (cJ, .long)] [.ref h, .int ee] (wX h r1 f1 s1 cI R F S cn tl) 2 := by
  unfold uX
  refine st_T (Qc := qX D [(cI, .int), (cJ, .long)] (wX h r1 f1 s1 cI R F S cn tl)) (XC := xT D [(cI, .int), (cJ, .long)] (wX h r1 f1 s1 cI R F S cn tl) 2) (mc := 1) (ms := 6) (cc := cX0_checkEntryOrNone) (maxL := 2) (ret := none) [.ref h, .int ee] (by decide) rfl (Nat.le_of_ble_eq_true rfl) (fun p en s m below meth c A ls hex hx hb hr hlocks hml hts hown hA hS hP hK hD hX hl => ?_)
  have hown : s.vm.findClass RX0 = some m.cls := hown
  have hl : lv_has ls 2 [(0, .ref h), (1, .int ee)] := hl
  have SC : CallFix p m c cX0_checkEntryOrNone 2 s ([.ref h, .int ee] : List Value).toArray wsX0_checkEntryOrNone RX0 := ⟨hx, hb, hml, hown, hts⟩
  refine lv_iload_n hx hb dX0_checkEntryOrNone_0 rfl (lv_at hl 1 rfl) ?_
  refine lv_iconst (v := (-1)) hx hb dX0_checkEntryOrNone_1 (by decide) ?_
  refine lv_icmp_eq (tgt := 10) hx hb dX0_checkEntryOrNone_2 (by decide) (fun h9 => absurd (Or.inl h9) hno) (fun h1 => ?_)
  refine lv_aload_n hx hb dX0_checkEntryOrNone_5 rfl (lv_at hl 0 rfl) ?_
  refine lv_iload_n hx hb dX0_checkEntryOrNone_6 rfl (lv_at hl 1 rfl) ?_
  exact r_x (rm := ({ frames := 6, cells := 1, slots := 6, locals := 100 } : Room)) (As := [.int ee]) (rest := []) (k_ce_bad l D ad cI cJ tl h r1 f1 s1 R F S cn ee hl9 (fun q => hno (Or.inr q))) SC (cwV 1 hts gX0_checkEntryOrNone_X0_checkEntry rfl rfl rfl (by decide +kernel) ⟨Nat.le_of_ble_eq_true rfl, Nat.le_of_ble_eq_true rfl⟩) hP hK hD hS hA hX 0 rfl rfl rfl hl.1 rfl (Nat.le_of_ble_eq_true rfl) dX0_checkEntryOrNone_7 ⟨Nat.le_of_ble_eq_true rfl, Nat.le_of_ble_eq_true rfl⟩ hex hlocks rfl (Nat.le_of_ble_eq_true rfl) (Nat.le_of_ble_eq_true rfl)
set_option maxHeartbeats 4000000 in
set_option maxRecDepth 100000 in
theorem k_cr_ok (l : Launch) (D : va_G) (ad : Nat → Nat) (cI cJ : ClassId) (tl : va_W) (h r1 f1 s1 : Nat) (R F S : Nat → Int32) (cn : Nat) (n : Int32) (k : Nat) (hn : n = nI k) (hc : cn ≤ 4000) (hk : k ≤ 200) (hm : cn + k ≤ 4000) : uV l yX0_checkRoomFor wsX0_checkRoomFor ({ frames := 0, cells := 0, slots := 0, locals := 0 } : Room) D ad [(cI, .int), (cJ, .long)] [.ref h, .int n] (wX h r1 f1 s1 cI R F S cn tl) (wX h r1 f1 s1 cI R F S cn tl) 0 0 := by
  subst hn
  unfold uV
  refine st_M (Qc := qV D [(cI, .int), (cJ, .long)] (wX h r1 f1 s1 cI R F S cn tl)) (mc := 0) (ms := 0) (cc := cX0_checkRoomFor) (maxL := 2) (ret := none) [.ref h, .int (nI k)] (by decide) rfl (Nat.le_of_ble_eq_true rfl) (fun p en s m below meth c A ls hx hb hr hlocks hml hts hown hA hS hP hK hD hX hl => ?_)
  have hown : s.vm.findClass RX0 = some m.cls := hown
  have hl : lv_has ls 2 [(0, .ref h), (1, .int (nI k))] := hl
  have hu : ∀ w ∈ u_ws RX0 TX0 4, w ∈ wsX0_checkRoomFor := by decide +kernel
  have hF19 := hts (.fieldLink RX0 19 "RankRows" "count" "I") (by decide +kernel)
  have SC : CallFix p m c cX0_checkRoomFor 2 s ([.ref h, .int (nI k)] : List Value).toArray wsX0_checkRoomFor RX0 := ⟨hx, hb, hml, hown, hts⟩
  refine lv_iload_n hx hb dX0_checkRoomFor_0 rfl (lv_at hl 1 rfl) ?_
  refine lv_sipush (v := 4000) hx hb dX0_checkRoomFor_1 (by decide) ?_
  refine lv_aload_n hx hb dX0_checkRoomFor_4 rfl (lv_at hl 0 rfl) ?_
  refine va_get (D := D) (ci := 0) (v := .int (nI cn)) (C := RX0) (T := TX0) (N := 4) hx hb hts hu hown hK hP 0 rfl rfl 3 (by decide) hF19 (fun _ h9 => h9) rfl dX0_checkRoomFor_5 ?_
  refine lv_isub hx hb dX0_checkRoomFor_8 ?_
  refine q_top (nI (4000 - cn)) (by rw [rk_4000]; exact pk_sub (by omega)) ?_
  refine lv_icmp_le (tgt := 22) hx hb dX0_checkRoomFor_9 (by decide) (fun _ => ?_) (fun h9 => absurd ((nI_leI (by omega) (by omega)).mpr (by omega)) h9)
  exact e_v hx hb hr hlocks hP hK hD hS dX0_checkRoomFor_22 (Nat.le_of_ble_eq_true rfl) (Nat.le_of_ble_eq_true rfl)
set_option maxHeartbeats 4000000 in
set_option maxRecDepth 100000 in
theorem k_cr_bad (l : Launch) (D : va_G) (ad : Nat → Nat) (cI cJ : ClassId) (tl : va_W) (h r1 f1 s1 : Nat) (R F S : Nat → Int32) (cn : Nat) (n : Int32) (k : Nat) (hl9 : l.stackTraces = false) (hn : n = nI k) (hc : cn ≤ 4000) (hk : k ≤ 200) (hm : ¬ cn + k ≤ 4000) : uX l yX0_checkRoomFor wsX0_checkRoomFor ({ frames := 6, cells := 1, slots := 6, locals := 100 } : Room) D ad [(cI, .int), (cJ, .long)] [.ref h, .int n] (wX h r1 f1 s1 cI R F S cn tl) 3 := by
  subst hn
  unfold uX
  refine st_T (Qc := qX D [(cI, .int), (cJ, .long)] (wX h r1 f1 s1 cI R F S cn tl)) (XC := xT D [(cI, .int), (cJ, .long)] (wX h r1 f1 s1 cI R F S cn tl) 3) (mc := 1) (ms := 6) (cc := cX0_checkRoomFor) (maxL := 2) (ret := none) [.ref h, .int (nI k)] (by decide) rfl (Nat.le_of_ble_eq_true rfl) (fun p en s m below meth c A ls hex hx hb hr hlocks hml hts hown hA hS hP hK hD hX hl => ?_)
  have hown : s.vm.findClass RX0 = some m.cls := hown
  have hl : lv_has ls 2 [(0, .ref h), (1, .int (nI k))] := hl
  have hu : ∀ w ∈ u_ws RX0 TX0 4, w ∈ wsX0_checkRoomFor := by decide +kernel
  have hF19 := hts (.fieldLink RX0 19 "RankRows" "count" "I") (by decide +kernel)
  have SC : CallFix p m c cX0_checkRoomFor 2 s ([.ref h, .int (nI k)] : List Value).toArray wsX0_checkRoomFor RX0 := ⟨hx, hb, hml, hown, hts⟩
  refine lv_iload_n hx hb dX0_checkRoomFor_0 rfl (lv_at hl 1 rfl) ?_
  refine lv_sipush (v := 4000) hx hb dX0_checkRoomFor_1 (by decide) ?_
  refine lv_aload_n hx hb dX0_checkRoomFor_4 rfl (lv_at hl 0 rfl) ?_
  refine va_get (D := D) (ci := 0) (v := .int (nI cn)) (C := RX0) (T := TX0) (N := 4) hx hb hts hu hown hK hP 0 rfl rfl 3 (by decide) hF19 (fun _ h9 => h9) rfl dX0_checkRoomFor_5 ?_
  refine lv_isub hx hb dX0_checkRoomFor_8 ?_
  refine q_top (nI (4000 - cn)) (by rw [rk_4000]; exact pk_sub (by omega)) ?_
  refine lv_icmp_le (tgt := 22) hx hb dX0_checkRoomFor_9 (by decide) (fun h9 => absurd h9 (fun q => hm (by have := (nI_leI (by omega) (by omega)).mp q; omega))) (fun _ => ?_)
  exact vx_throwS (own := RX0) (cls := "java/lang/IllegalStateException") (names := ["java/lang/RuntimeException", "java/lang/Exception"]) hx hb hl9 hown (by decide +kernel) (by decide +kernel) (hts (.classLink RX0 74 "java/lang/IllegalStateException") (by decide +kernel)) (hts (.initialized "java/lang/IllegalStateException") (by decide +kernel)) (hX.2.2.2.2 _ (List.mem_of_getElem? (i := 7) rfl)) (vx_hat (L := vx_atS RX0 78 "java/lang/IllegalStateException" ["java/lang/RuntimeException", "java/lang/Exception"]) (B := [.castable "java/lang/IllegalStateException" "java/lang/IllegalStateException", .declares ⟨"java/lang/RuntimeException", "<init>", "(Ljava/lang/String;)V"⟩, .declares ⟨"java/lang/Exception", "<init>", "(Ljava/lang/String;)V"⟩, .declares ⟨"java/lang/Throwable", "<init>", "(Ljava/lang/String;)V"⟩]) (fun w hw => hts w ((by decide +kernel : ∀ w ∈ (vx_atS RX0 78 "java/lang/IllegalStateException" ["java/lang/RuntimeException", "java/lang/Exception"]).filter goodWord, w ∈ wsX0_checkRoomFor) w hw)) (by decide +kernel) (vx_c (va_Nw.use rfl (hX.2.1 _ (List.mem_of_getElem? (i := 2) rfl))) (vx_c (va_Nw.use rfl (hX.2.2.1 _ (List.mem_of_getElem? (i := 0) rfl))) (vx_c (va_Nw.use rfl (hX.2.2.1 _ (List.mem_of_getElem? (i := 1) rfl))) (vx_c (va_Nw.use rfl (hX.2.2.1 _ (List.mem_of_getElem? (i := 2) rfl))) (vx_n)))))) (by decide +kernel) hX.1.1 hX.1.2 hS (hl.1.trans hml.symm) dX0_checkRoomFor_12 dX0_checkRoomFor_15 dX0_checkRoomFor_16 dX0_checkRoomFor_18 dX0_checkRoomFor_21 (fun x h => (hex x h).elim) (Nat.le_of_ble_eq_true rfl) (Nat.le_of_ble_eq_true rfl) (Nat.le_of_ble_eq_true rfl) (Nat.le_of_ble_eq_true rfl) hlocks (r_t (rfl) (by decide) (by decide +kernel) hP hK hD hS) hS.2.2 (Nat.le_of_ble_eq_true rfl) (Nat.le_of_ble_eq_true rfl)
set_option maxHeartbeats 4000000 in
set_option maxRecDepth 100000 in
theorem k_po (l : Launch) (D : va_G) (ad : Nat → Nat) (cI cJ : ClassId) (tl : va_W) (h r1 f1 s1 : Nat) (R F S : Nat → Int32) (cn : Nat) (ee : Int32) (hc : cn ≤ 4000) : uI l yX0_placeOf wsX0_placeOf ({ frames := 0, cells := 0, slots := 0, locals := 0 } : Room) D ad [(cI, .int), (cJ, .long)] [.ref h, .int ee] (wX h r1 f1 s1 cI R F S cn tl) (wX h r1 f1 s1 cI R F S cn tl) (nI (rk_pl R ee cn)) 0 0 := by
  unfold uI
  refine st_M (Qc := qI D [(cI, .int), (cJ, .long)] (wX h r1 f1 s1 cI R F S cn tl) (nI (rk_pl R ee cn))) (mc := 0) (ms := 0) (cc := cX0_placeOf) (maxL := 3) (ret := (some .int)) [.ref h, .int ee] (by decide) rfl (Nat.le_of_ble_eq_true rfl) (fun p en s m below meth c A ls hx hb hr hlocks hml hts hown hA hS hP hK hD hX hl => ?_)
  have hown : s.vm.findClass RX0 = some m.cls := hown
  have hl : lv_has ls 3 [(0, .ref h), (1, .int ee)] := hl
  have hu : ∀ w ∈ u_ws RX0 TX0 4, w ∈ wsX0_placeOf := by decide +kernel
  have hF9 := hts (.fieldLink RX0 9 "RankRows" "row" "[I") (by decide +kernel)
  have hF19 := hts (.fieldLink RX0 19 "RankRows" "count" "I") (by decide +kernel)
  refine lv_iconst (v := 0) hx hb dX0_placeOf_0 (by decide) ?_
  refine lv_istore_n (lv' := [(2, .int 0), (0, .ref h), (1, .int ee)]) hx hb dX0_placeOf_1 rfl hl (by decide) rfl (fun ls hl => ?_)
  have loop : ∀ (d k : Nat), cn - k < d → k ≤ cn → (∀ j, j < k → ¬ R j = ee) → ∀ ls : Array Slot, lv_has ls 3 [(2, .int (nI k)), (0, .ref h), (1, .int ee)] → W p l en ({ frames := 0, cells := 0, slots := 0, locals := 0 } : Room) s m ([.ref h, .int ee] : List Value).toArray below meth c s.heap [] 0 0 (MQ below (qI D [(cI, .int), (cJ, .long)] (wX h r1 f1 s1 cI R F S cn tl) (nI (rk_pl R ee cn)) A) ([.ref h, .int ee] : List Value).toArray s 0 0 A) (F0 m 2 ls []) := by
    intro d
    induction d with
    | zero => intro k hd; exact absurd hd (Nat.not_lt_zero _)
    | succ d ih =>
      intro k hd hk hno ls hl
      refine lv_iload_n hx hb dX0_placeOf_2 rfl (lv_at hl 0 rfl) ?_
      refine lv_aload_n hx hb dX0_placeOf_3 rfl (lv_at hl 1 rfl) ?_
      refine va_get (D := D) (ci := 0) (v := .int (nI cn)) (C := RX0) (T := TX0) (N := 4) hx hb hts hu hown hK hP 0 rfl rfl 3 (by decide) hF19 (fun _ h9 => h9) rfl dX0_placeOf_4 ?_
      refine lv_icmp_ge (tgt := 26) hx hb dX0_placeOf_7 (by decide) (fun h1 => ?_) (fun h1 => ?_)
      · have hkc : cn ≤ k := (nI_leI (by omega) (by omega)).mp h1
        refine lv_iload_n hx hb dX0_placeOf_26 rfl (lv_at hl 0 rfl) ?_
        refine q_top (nI (rk_pl R ee cn)) (by rw [rk_pl_eq hk hno (fun q => absurd q (by omega))]) ?_
        exact e_i hx hb hr hlocks hP hK hD hS dX0_placeOf_27 (Nat.le_of_ble_eq_true rfl) (Nat.le_of_ble_eq_true rfl)
      · have hkc : k < cn := Nat.lt_of_not_le (fun q => h1 ((nI_leI (by omega) (by omega)).mpr q))
        refine lv_aload_n hx hb dX0_placeOf_10 rfl (lv_at hl 1 rfl) ?_
        refine va_get (D := D) (ci := 0) (v := .ref r1) (C := RX0) (T := TX0) (N := 4) hx hb hts hu hown hK hP 0 rfl rfl 0 (by decide) hF9 (fun _ h9 => h9) rfl dX0_placeOf_11 ?_
        refine lv_iload_n hx hb dX0_placeOf_14 rfl (lv_at hl 0 rfl) ?_
        refine q_iald hx hb hK hP 1 0 rfl rfl k (by omega) (Nat.le_refl _) rfl dX0_placeOf_15 ?_
        refine lv_iload_n hx hb dX0_placeOf_16 rfl (lv_at hl 2 rfl) ?_
        refine lv_icmp_eq (tgt := 26) hx hb dX0_placeOf_17 (by decide) (fun h2 => ?_) (fun h2 => ?_)
        · refine lv_iload_n hx hb dX0_placeOf_26 rfl (lv_at hl 0 rfl) ?_
          refine q_top (nI (rk_pl R ee cn)) (by rw [rk_pl_eq hk hno (fun _ => h2)]) ?_
          exact e_i hx hb hr hlocks hP hK hD hS dX0_placeOf_27 (Nat.le_of_ble_eq_true rfl) (Nat.le_of_ble_eq_true rfl)
        · refine lv_iinc (k := 0) (v := nI (k + 1)) (lv' := [(2, .int (nI (k + 1))), (0, .ref h), (1, .int ee)]) hx hb dX0_placeOf_20 hl rfl (by rw [(by decide : Int32.ofInt 1 = 1)]; exact nI_1 _) (by decide) rfl (fun ls hl => ?_)
          refine lv_goto (tgt := 2) hx hb dX0_placeOf_23 (by decide) ?_
          exact ih (k + 1) (by omega) (by omega) (fun j hj => (Nat.lt_succ_iff_lt_or_eq.mp hj).elim (fun q => hno j q) (fun q => by rw [q]; exact h2)) ls hl
  have hl : lv_has ls 3 [(2, .int (nI 0)), (0, .ref h), (1, .int ee)] := hl
  exact loop (cn + 1) 0 (by omega) (Nat.zero_le _) (fun j q => absurd q (Nat.not_lt_zero j)) ls hl
set_option maxHeartbeats 4000000 in
set_option maxRecDepth 100000 in
theorem k_pb (l : Launch) (D : va_G) (ad : Nat → Nat) (cI cJ : ClassId) (tl : va_W) (h r1 f1 s1 : Nat) (R F S : Nat → Int32) (cn : Nat) (ee : Int32) (hc : cn ≤ 4000) : uI l yX0_placeBehind wsX0_placeBehind ({ frames := 1, cells := 0, slots := 0, locals := 40 } : Room) D ad [(cI, .int), (cJ, .long)] [.ref h, .int ee] (wX h r1 f1 s1 cI R F S cn tl) (wX h r1 f1 s1 cI R F S cn tl) (nI (rk_pb R ee cn)) 0 0 := by
  unfold uI
  refine st_M (Qc := qI D [(cI, .int), (cJ, .long)] (wX h r1 f1 s1 cI R F S cn tl) (nI (rk_pb R ee cn))) (mc := 0) (ms := 0) (cc := cX0_placeBehind) (maxL := 2) (ret := (some .int)) [.ref h, .int ee] (by decide) rfl (Nat.le_of_ble_eq_true rfl) (fun p en s m below meth c A ls hx hb hr hlocks hml hts hown hA hS hP hK hD hX hl => ?_)
  have hown : s.vm.findClass RX0 = some m.cls := hown
  have hl : lv_has ls 2 [(0, .ref h), (1, .int ee)] := hl
  have SC : CallFix p m c cX0_placeBehind 2 s ([.ref h, .int ee] : List Value).toArray wsX0_placeBehind RX0 := ⟨hx, hb, hml, hown, hts⟩
  refine lv_iload_n hx hb dX0_placeBehind_0 rfl (lv_at hl 1 rfl) ?_
  refine lv_iconst (v := (-1)) hx hb dX0_placeBehind_1 (by decide) ?_
  refine lv_icmp_ne (tgt := 9) hx hb dX0_placeBehind_2 (by decide) (fun h1 => ?_) (fun h1 => ?_)
  · refine lv_aload_n hx hb dX0_placeBehind_9 rfl (lv_at hl 0 rfl) ?_
    refine lv_iload_n hx hb dX0_placeBehind_10 rfl (lv_at hl 1 rfl) ?_
    refine r_i (rm := ({ frames := 0, cells := 0, slots := 0, locals := 0 } : Room)) (As := [.int ee]) (rest := []) (k_po l D ad cI cJ tl h r1 f1 s1 R F S cn ee hc) SC (cwV 1 hts gX0_placeBehind_X0_placeOf rfl rfl rfl (by decide +kernel) ⟨Nat.le_of_ble_eq_true rfl, Nat.le_of_ble_eq_true rfl⟩) hP hK hD hS hA hX 0 rfl rfl rfl hl.1 rfl (Nat.le_of_ble_eq_true rfl) dX0_placeBehind_11 ⟨Nat.le_of_ble_eq_true rfl, Nat.le_of_ble_eq_true rfl⟩ (fun H locs hP hD hS => ?_)
    have hP : va_P D vwD (wX h r1 f1 s1 cI R F S cn tl) H := hP
    have hD : va_D A (wX h r1 f1 s1 cI R F S cn tl) := hD
    refine lv_iconst (v := 1) hx hb dX0_placeBehind_14 (by decide) ?_
    refine lv_iadd hx hb dX0_placeBehind_15 ?_
    refine q_top (nI ((rk_pl R ee cn) + 1)) (nI_1 _) ?_
    refine q_top (nI (rk_pb R ee cn)) (by rw [rk_pb_n h1]) ?_
    exact e_i hx hb hr hlocks hP hK hD hS dX0_placeBehind_16 (Nat.le_of_ble_eq_true rfl) (Nat.le_of_ble_eq_true rfl)
  · refine lv_iconst (v := 0) hx hb dX0_placeBehind_5 (by decide) ?_
    refine lv_goto (tgt := 16) hx hb dX0_placeBehind_6 (by decide) ?_
    refine q_top (nI (rk_pb R ee cn)) (by rw [h1, rk_pb_m, nI_0]) ?_
    exact e_i hx hb hr hlocks hP hK hD hS dX0_placeBehind_16 (Nat.le_of_ble_eq_true rfl) (Nat.le_of_ble_eq_true rfl)
set_option maxHeartbeats 4000000 in
set_option maxRecDepth 100000 in
theorem k_sf (l : Launch) (D : va_G) (ad : Nat → Nat) (cI cJ : ClassId) (tl : va_W) (h r1 f1 s1 : Nat) (R F S : Nat → Int32) (cn : Nat) (q : Nat) (hR : rk_ok R cn) (hq : q ≤ cn) : uI l yX0_sumInFrontOf wsX0_sumInFrontOf ({ frames := 0, cells := 0, slots := 0, locals := 0 } : Room) D ad [(cI, .int), (cJ, .long)] [.ref h, .int (nI q), .ref f1] (wX h r1 f1 s1 cI R F S cn tl) (wX h r1 f1 s1 cI R F S cn tl) (rk_sm R F q) 0 0 := by
  unfold uI
  refine st_M (Qc := qI D [(cI, .int), (cJ, .long)] (wX h r1 f1 s1 cI R F S cn tl) (rk_sm R F q)) (mc := 0) (ms := 0) (cc := cX0_sumInFrontOf) (maxL := 5) (ret := (some .int)) [.ref h, .int (nI q), .ref f1] (by decide) rfl (Nat.le_of_ble_eq_true rfl) (fun p en s m below meth c A ls hx hb hr hlocks hml hts hown hA hS hP hK hD hX hl => ?_)
  have hown : s.vm.findClass RX0 = some m.cls := hown
  have hl : lv_has ls 5 [(0, .ref h), (1, .int (nI q)), (2, .ref f1)] := hl
  have hu : ∀ w ∈ u_ws RX0 TX0 4, w ∈ wsX0_sumInFrontOf := by decide +kernel
  have hF9 := hts (.fieldLink RX0 9 "RankRows" "row" "[I") (by decide +kernel)
  have hc := hR.1
  refine lv_iconst (v := 0) hx hb dX0_sumInFrontOf_0 (by decide) ?_
  refine lv_istore_n (lv' := [(3, .int 0), (0, .ref h), (1, .int (nI q)), (2, .ref f1)]) hx hb dX0_sumInFrontOf_1 rfl hl (by decide) rfl (fun ls hl => ?_)
  refine lv_iconst (v := 0) hx hb dX0_sumInFrontOf_2 (by decide) ?_
  refine lv_istore (lv' := [(4, .int 0), (3, .int 0), (0, .ref h), (1, .int (nI q)), (2, .ref f1)]) hx hb dX0_sumInFrontOf_3 hl (by decide) rfl (fun ls hl => ?_)
  have loop : ∀ (d k : Nat), q - k < d → k ≤ q → ∀ ls : Array Slot, lv_has ls 5 [(4, .int (nI k)), (3, .int (rk_sm R F k)), (0, .ref h), (1, .int (nI q)), (2, .ref f1)] → W p l en ({ frames := 0, cells := 0, slots := 0, locals := 0 } : Room) s m ([.ref h, .int (nI q), .ref f1] : List Value).toArray below meth c s.heap [] 0 0 (MQ below (qI D [(cI, .int), (cJ, .long)] (wX h r1 f1 s1 cI R F S cn tl) (rk_sm R F q) A) ([.ref h, .int (nI q), .ref f1] : List Value).toArray s 0 0 A) (F0 m 5 ls []) := by
    intro d
    induction d with
    | zero => intro k hd; exact absurd hd (Nat.not_lt_zero _)
    | succ d ih =>
      intro k hd hk ls hl
      refine lv_iload hx hb dX0_sumInFrontOf_5 (lv_at hl 0 rfl) ?_
      refine lv_iload_n hx hb dX0_sumInFrontOf_7 rfl (lv_at hl 3 rfl) ?_
      refine lv_icmp_ge (tgt := 29) hx hb dX0_sumInFrontOf_8 (by decide) (fun h1 => ?_) (fun h1 => ?_)
      · have hkq : q ≤ k := (nI_leI (by omega) (by omega)).mp h1
        refine lv_iload_n hx hb dX0_sumInFrontOf_29 rfl (lv_at hl 1 rfl) ?_
        refine q_top (rk_sm R F q) (by rw [show k = q by omega]) ?_
        exact e_i hx hb hr hlocks hP hK hD hS dX0_sumInFrontOf_30 (Nat.le_of_ble_eq_true rfl) (Nat.le_of_ble_eq_true rfl)
      · have hkq : k < q := Nat.lt_of_not_le (fun z => h1 ((nI_leI (by omega) (by omega)).mpr z))
        obtain ⟨j, hj, hRk⟩ := hR.2.1 k (by omega)
        refine lv_iload_n hx hb dX0_sumInFrontOf_11 rfl (lv_at hl 1 rfl) ?_
        refine lv_aload_n hx hb dX0_sumInFrontOf_12 rfl (lv_at hl 4 rfl) ?_
        refine lv_aload_n hx hb dX0_sumInFrontOf_13 rfl (lv_at hl 2 rfl) ?_
        refine va_get (D := D) (ci := 0) (v := .ref r1) (C := RX0) (T := TX0) (N := 4) hx hb hts hu hown hK hP 0 rfl rfl 0 (by decide) hF9 (fun _ h9 => h9) rfl dX0_sumInFrontOf_14 ?_
        refine lv_iload hx hb dX0_sumInFrontOf_17 (lv_at hl 0 rfl) ?_
        refine q_iald hx hb hK hP 1 0 rfl rfl k (by omega) (Nat.le_refl _) rfl dX0_sumInFrontOf_19 ?_
        refine q_iald hx hb hK hP 2 0 rfl rfl j (by omega) (Nat.le_refl _) hRk dX0_sumInFrontOf_20 ?_
        refine lv_iadd hx hb dX0_sumInFrontOf_21 ?_
        refine q_top (rk_sm R F (k + 1)) (by show _ = rk_sm R F k + F (R k).toNatClampNeg; rw [hRk, rk_cl j (by omega)]) ?_
        refine lv_istore_n (lv' := [(3, .int (rk_sm R F (k + 1))), (4, .int (nI k)), (0, .ref h), (1, .int (nI q)), (2, .ref f1)]) hx hb dX0_sumInFrontOf_22 rfl hl (by decide) rfl (fun ls hl => ?_)
        refine lv_iinc (k := 1) (v := nI (k + 1)) (lv' := [(4, .int (nI (k + 1))), (3, .int (rk_sm R F (k + 1))), (0, .ref h), (1, .int (nI q)), (2, .ref f1)]) hx hb dX0_sumInFrontOf_23 hl rfl (by rw [(by decide : Int32.ofInt 1 = 1)]; exact nI_1 _) (by decide) rfl (fun ls hl => ?_)
        refine lv_goto (tgt := 5) hx hb dX0_sumInFrontOf_26 (by decide) ?_
        exact ih (k + 1) (by omega) (by omega) ls hl
  have hl : lv_has ls 5 [(4, .int (nI 0)), (3, .int (rk_sm R F 0)), (0, .ref h), (1, .int (nI q)), (2, .ref f1)] := hl
  exact loop (q + 1) 0 (by omega) (Nat.zero_le _) ls hl
set_option maxHeartbeats 4000000 in
set_option maxRecDepth 100000 in
theorem k_ss (l : Launch) (D : va_G) (ad : Nat → Nat) (cI cJ : ClassId) (tl : va_W) (h r1 f1 s1 : Nat) (R F S : Nat → Int32) (cn : Nat) (q : Nat) (hR : rk_ok R cn) (hq : q ≤ cn) : uI l yX0_sumInFrontOf wsX0_sumInFrontOf ({ frames := 0, cells := 0, slots := 0, locals := 0 } : Room) D ad [(cI, .int), (cJ, .long)] [.ref h, .int (nI q), .ref s1] (wX h r1 f1 s1 cI R F S cn tl) (wX h r1 f1 s1 cI R F S cn tl) (rk_sm R S q) 0 0 := by
  unfold uI
  refine st_M (Qc := qI D [(cI, .int), (cJ, .long)] (wX h r1 f1 s1 cI R F S cn tl) (rk_sm R S q)) (mc := 0) (ms := 0) (cc := cX0_sumInFrontOf) (maxL := 5) (ret := (some .int)) [.ref h, .int (nI q), .ref s1] (by decide) rfl (Nat.le_of_ble_eq_true rfl) (fun p en s m below meth c A ls hx hb hr hlocks hml hts hown hA hS hP hK hD hX hl => ?_)
  have hown : s.vm.findClass RX0 = some m.cls := hown
  have hl : lv_has ls 5 [(0, .ref h), (1, .int (nI q)), (2, .ref s1)] := hl
  have hu : ∀ w ∈ u_ws RX0 TX0 4, w ∈ wsX0_sumInFrontOf := by decide +kernel
  have hF9 := hts (.fieldLink RX0 9 "RankRows" "row" "[I") (by decide +kernel)
  have hc := hR.1
  refine lv_iconst (v := 0) hx hb dX0_sumInFrontOf_0 (by decide) ?_
  refine lv_istore_n (lv' := [(3, .int 0), (0, .ref h), (1, .int (nI q)), (2, .ref s1)]) hx hb dX0_sumInFrontOf_1 rfl hl (by decide) rfl (fun ls hl => ?_)
  refine lv_iconst (v := 0) hx hb dX0_sumInFrontOf_2 (by decide) ?_
  refine lv_istore (lv' := [(4, .int 0), (3, .int 0), (0, .ref h), (1, .int (nI q)), (2, .ref s1)]) hx hb dX0_sumInFrontOf_3 hl (by decide) rfl (fun ls hl => ?_)
  have loop : ∀ (d k : Nat), q - k < d → k ≤ q → ∀ ls : Array Slot, lv_has ls 5 [(4, .int (nI k)), (3, .int (rk_sm R S k)), (0, .ref h), (1, .int (nI q)), (2, .ref s1)] → W p l en ({ frames := 0, cells := 0, slots := 0, locals := 0 } : Room) s m ([.ref h, .int (nI q), .ref s1] : List Value).toArray below meth c s.heap [] 0 0 (MQ below (qI D [(cI, .int), (cJ, .long)] (wX h r1 f1 s1 cI R F S cn tl) (rk_sm R S q) A) ([.ref h, .int (nI q), .ref s1] : List Value).toArray s 0 0 A) (F0 m 5 ls []) := by
    intro d
    induction d with
    | zero => intro k hd; exact absurd hd (Nat.not_lt_zero _)
    | succ d ih =>
      intro k hd hk ls hl
      refine lv_iload hx hb dX0_sumInFrontOf_5 (lv_at hl 0 rfl) ?_
      refine lv_iload_n hx hb dX0_sumInFrontOf_7 rfl (lv_at hl 3 rfl) ?_
      refine lv_icmp_ge (tgt := 29) hx hb dX0_sumInFrontOf_8 (by decide) (fun h1 => ?_) (fun h1 => ?_)
      · have hkq : q ≤ k := (nI_leI (by omega) (by omega)).mp h1
        refine lv_iload_n hx hb dX0_sumInFrontOf_29 rfl (lv_at hl 1 rfl) ?_
        refine q_top (rk_sm R S q) (by rw [show k = q by omega]) ?_
        exact e_i hx hb hr hlocks hP hK hD hS dX0_sumInFrontOf_30 (Nat.le_of_ble_eq_true rfl) (Nat.le_of_ble_eq_true rfl)
      · have hkq : k < q := Nat.lt_of_not_le (fun z => h1 ((nI_leI (by omega) (by omega)).mpr z))
        obtain ⟨j, hj, hRk⟩ := hR.2.1 k (by omega)
        refine lv_iload_n hx hb dX0_sumInFrontOf_11 rfl (lv_at hl 1 rfl) ?_
        refine lv_aload_n hx hb dX0_sumInFrontOf_12 rfl (lv_at hl 4 rfl) ?_
        refine lv_aload_n hx hb dX0_sumInFrontOf_13 rfl (lv_at hl 2 rfl) ?_
        refine va_get (D := D) (ci := 0) (v := .ref r1) (C := RX0) (T := TX0) (N := 4) hx hb hts hu hown hK hP 0 rfl rfl 0 (by decide) hF9 (fun _ h9 => h9) rfl dX0_sumInFrontOf_14 ?_
        refine lv_iload hx hb dX0_sumInFrontOf_17 (lv_at hl 0 rfl) ?_
        refine q_iald hx hb hK hP 1 0 rfl rfl k (by omega) (Nat.le_refl _) rfl dX0_sumInFrontOf_19 ?_
        refine q_iald hx hb hK hP 3 0 rfl rfl j (by omega) (Nat.le_refl _) hRk dX0_sumInFrontOf_20 ?_
        refine lv_iadd hx hb dX0_sumInFrontOf_21 ?_
        refine q_top (rk_sm R S (k + 1)) (by show _ = rk_sm R S k + S (R k).toNatClampNeg; rw [hRk, rk_cl j (by omega)]) ?_
        refine lv_istore_n (lv' := [(3, .int (rk_sm R S (k + 1))), (4, .int (nI k)), (0, .ref h), (1, .int (nI q)), (2, .ref s1)]) hx hb dX0_sumInFrontOf_22 rfl hl (by decide) rfl (fun ls hl => ?_)
        refine lv_iinc (k := 1) (v := nI (k + 1)) (lv' := [(4, .int (nI (k + 1))), (3, .int (rk_sm R S (k + 1))), (0, .ref h), (1, .int (nI q)), (2, .ref s1)]) hx hb dX0_sumInFrontOf_23 hl rfl (by rw [(by decide : Int32.ofInt 1 = 1)]; exact nI_1 _) (by decide) rfl (fun ls hl => ?_)
        refine lv_goto (tgt := 5) hx hb dX0_sumInFrontOf_26 (by decide) ?_
        exact ih (k + 1) (by omega) (by omega) ls hl
  have hl : lv_has ls 5 [(4, .int (nI 0)), (3, .int (rk_sm R S 0)), (0, .ref h), (1, .int (nI q)), (2, .ref s1)] := hl
  exact loop (q + 1) 0 (by omega) (Nat.zero_le _) ls hl
set_option maxHeartbeats 4000000 in
set_option maxRecDepth 100000 in
theorem k_pa (l : Launch) (D : va_G) (ad : Nat → Nat) (cI cJ : ClassId) (tl : va_W) (h r1 f1 s1 : Nat) (R F S : Nat → Int32) (cn : Nat) (x n a b : Int32) (q k : Nat) (hxq : x = nI q) (hn : n = nI k) (hq : q ≤ cn) (hm : cn + k ≤ 4000) : uV l yX0_putAt wsX0_putAt ({ frames := 1, cells := 0, slots := 0, locals := 100 } : Room) D ad [(cI, .int), (cJ, .long)] [.ref h, .int x, .int n, .int a, .int b] (wX h r1 f1 s1 cI R F S cn tl) (wX h r1 f1 s1 cI (rk_in R cn q k) (rk_fl F cn k a) (rk_fl S cn k b) (cn + k) tl) 0 0 := by
  subst hxq
  subst hn
  unfold uV
  refine st_M (Qc := qV D [(cI, .int), (cJ, .long)] (wX h r1 f1 s1 cI (rk_in R cn q k) (rk_fl F cn k a) (rk_fl S cn k b) (cn + k) tl)) (mc := 0) (ms := 0) (cc := cX0_putAt) (maxL := 7) (ret := none) [.ref h, .int (nI q), .int (nI k), .int a, .int b] (by decide) rfl (Nat.le_of_ble_eq_true rfl) (fun p en s m below meth c A ls hx hb hr hlocks hml hts hown hA hS hP hK hD hX hl => ?_)
  have hown : s.vm.findClass RX0 = some m.cls := hown
  have hl : lv_has ls 7 [(0, .ref h), (1, .int (nI q)), (2, .int (nI k)), (3, .int a), (4, .int b)] := hl
  have hu : ∀ w ∈ u_ws RX0 TX0 4, w ∈ wsX0_putAt := by decide +kernel
  have hF9 := hts (.fieldLink RX0 9 "RankRows" "row" "[I") (by decide +kernel)
  have hF13 := hts (.fieldLink RX0 13 "RankRows" "firsts" "[I") (by decide +kernel)
  have hF16 := hts (.fieldLink RX0 16 "RankRows" "seconds" "[I") (by decide +kernel)
  have hF19 := hts (.fieldLink RX0 19 "RankRows" "count" "I") (by decide +kernel)
  have SC : CallFix p m c cX0_putAt 7 s ([.ref h, .int (nI q), .int (nI k), .int a, .int b] : List Value).toArray wsX0_putAt RX0 := ⟨hx, hb, hml, hown, hts⟩
  refine lv_aload_n hx hb dX0_putAt_0 rfl (lv_at hl 0 rfl) ?_
  refine va_get (D := D) (ci := 0) (v := .ref r1) (C := RX0) (T := TX0) (N := 4) hx hb hts hu hown hK hP 0 rfl rfl 0 (by decide) hF9 (fun _ h9 => h9) rfl dX0_putAt_1 ?_
  refine lv_iload_n hx hb dX0_putAt_4 rfl (lv_at hl 1 rfl) ?_
  refine lv_aload_n hx hb dX0_putAt_5 rfl (lv_at hl 0 rfl) ?_
  refine va_get (D := D) (ci := 0) (v := .ref r1) (C := RX0) (T := TX0) (N := 4) hx hb hts hu hown hK hP 0 rfl rfl 0 (by decide) hF9 (fun _ h9 => h9) rfl dX0_putAt_6 ?_
  refine lv_iload_n hx hb dX0_putAt_9 rfl (lv_at hl 1 rfl) ?_
  refine lv_iload_n hx hb dX0_putAt_10 rfl (lv_at hl 2 rfl) ?_
  refine lv_iadd hx hb dX0_putAt_11 ?_
  refine q_top (nI (q + k)) (nI_add _ _) ?_
  refine lv_aload_n hx hb dX0_putAt_12 rfl (lv_at hl 0 rfl) ?_
  refine va_get (D := D) (ci := 0) (v := .int (nI cn)) (C := RX0) (T := TX0) (N := 4) hx hb hts hu hown hK hP 0 rfl rfl 3 (by decide) hF19 (fun _ h9 => h9) rfl dX0_putAt_13 ?_
  refine lv_iload_n hx hb dX0_putAt_16 rfl (lv_at hl 1 rfl) ?_
  refine lv_isub hx hb dX0_putAt_17 ?_
  refine q_top (nI (cn - q)) (pk_sub hq) ?_
  refine va_copyi (ty := .int) hx hb (hml.trans hl.1.symm) hown (hts (.methodLink RX0 79 arraycopyName) (by decide +kernel)) (hts (.native arraycopyName) (by decide +kernel)) (hts (.static arraycopyName) (by decide +kernel)) (hts (.initialized "java/lang/System") (by decide +kernel)) hK hP hD hS 1 1 0 0 rfl rfl rfl rfl rfl (nI_pos (by omega)) (nI_pos (by omega)) (nI_pos (by omega)) (by rw [rk_cl q (by omega), rk_cl (cn - q) (by omega)]; omega) (by rw [rk_cl (q + k) (by omega), rk_cl (cn - q) (by omega)]; omega) (fun _ _ => rfl) (Nat.le_of_ble_eq_true rfl) (Nat.le_of_ble_eq_true rfl) dX0_putAt_18 (fun H locs hP hD hS => ?_)
  rw [rk_cl q (by omega), rk_cl (q + k) (by omega), rk_cl (cn - q) (by omega), rk_pu_0] at hP hD
  have hP : va_P D vwD (wX h r1 f1 s1 cI (rk_pu R cn q k 0) F S cn tl) H := hP
  have hD : va_D A (wX h r1 f1 s1 cI (rk_pu R cn q k 0) F S cn tl) := hD
  refine lv_iconst (v := 0) hx hb dX0_putAt_21 (by decide) ?_
  refine lv_istore (lv' := [(5, .int 0), (0, .ref h), (1, .int (nI q)), (2, .int (nI k)), (3, .int a), (4, .int b)]) hx hb dX0_putAt_22 hl (by decide) rfl (fun ls hl => ?_)
  have loop : ∀ (d i : Nat), k - i < d → i ≤ k → ∀ (H : Heap) (locs : List Loc), va_P D vwD (wX h r1 f1 s1 cI (rk_pu R cn q k i) (rk_fl F cn i a) (rk_fl S cn i b) cn tl) H → va_D A (wX h r1 f1 s1 cI (rk_pu R cn q k i) (rk_fl F cn i a) (rk_fl S cn i b) cn tl) → va_S A s.heap H locs → ∀ ls : Array Slot, lv_has ls 7 [(5, .int (nI i)), (0, .ref h), (1, .int (nI q)), (2, .int (nI k)), (3, .int a), (4, .int b)] → W p l en ({ frames := 1, cells := 0, slots := 0, locals := 100 } : Room) s m ([.ref h, .int (nI q), .int (nI k), .int a, .int b] : List Value).toArray below meth c H locs 0 0 (MQ below (qV D [(cI, .int), (cJ, .long)] (wX h r1 f1 s1 cI (rk_in R cn q k) (rk_fl F cn k a) (rk_fl S cn k b) (cn + k) tl) A) ([.ref h, .int (nI q), .int (nI k), .int a, .int b] : List Value).toArray s 0 0 A) (F0 m 24 ls []) := by
    intro d
    induction d with
    | zero => intro i hd; exact absurd hd (Nat.not_lt_zero _)
    | succ d ih =>
      intro i hd hik H locs hP hD hS ls hl
      refine lv_iload hx hb dX0_putAt_24 (lv_at hl 0 rfl) ?_
      refine lv_iload_n hx hb dX0_putAt_26 rfl (lv_at hl 3 rfl) ?_
      refine lv_icmp_ge (tgt := 73) hx hb dX0_putAt_27 (by decide) (fun h1 => ?_) (fun h1 => ?_)
      · have hki : i = k := by have := (nI_leI (by omega) (by omega)).mp h1; omega
        rw [hki, rk_pu_n R k hq] at hP hD
        refine lv_aload_n hx hb dX0_putAt_73 rfl (lv_at hl 1 rfl) ?_
        refine lv_dup hx hb dX0_putAt_74 rfl ?_
        refine va_get (D := D) (ci := 0) (v := .int (nI cn)) (C := RX0) (T := TX0) (N := 4) hx hb hts hu hown hK hP 0 rfl rfl 3 (by decide) hF19 (fun _ h9 => h9) rfl dX0_putAt_75 ?_
        refine lv_iload_n hx hb dX0_putAt_78 rfl (lv_at hl 3 rfl) ?_
        refine lv_iadd hx hb dX0_putAt_79 ?_
        refine q_top (nI (cn + k)) (nI_add _ _) ?_
        refine va_put (D := D) (ci := 0) (v := .int (nI (cn + k))) (ty := .int) (C := RX0) (T := TX0) (N := 4) hx hb hts hu tyX0 tyX0_ok nmX0 hown hK hP hD hS 0 rfl rfl 3 (by decide) hF19 (fun _ h9 => h9) rfl (by decide +kernel) rfl rfl (Nat.le_of_ble_eq_true rfl) dX0_putAt_80 (fun H locs hP hD hS => ?_)
        have hP : va_P D vwD (wX h r1 f1 s1 cI (rk_in R cn q k) (rk_fl F cn k a) (rk_fl S cn k b) (cn + k) tl) H := hP
        have hD : va_D A (wX h r1 f1 s1 cI (rk_in R cn q k) (rk_fl F cn k a) (rk_fl S cn k b) (cn + k) tl) := hD
        exact e_v hx hb hr hlocks hP hK hD hS dX0_putAt_83 (Nat.le_of_ble_eq_true rfl) (Nat.le_of_ble_eq_true rfl)
      · have hki : i < k := Nat.lt_of_not_le (fun z => h1 ((nI_leI (by omega) (by omega)).mpr z))
        refine lv_aload_n hx hb dX0_putAt_30 rfl (lv_at hl 1 rfl) ?_
        refine va_get (D := D) (ci := 0) (v := .int (nI cn)) (C := RX0) (T := TX0) (N := 4) hx hb hts hu hown hK hP 0 rfl rfl 3 (by decide) hF19 (fun _ h9 => h9) rfl dX0_putAt_31 ?_
        refine lv_iload hx hb dX0_putAt_34 (lv_at hl 0 rfl) ?_
        refine lv_iadd hx hb dX0_putAt_36 ?_
        refine q_top (nI (cn + i)) (nI_add _ _) ?_
        refine lv_istore (lv' := [(6, .int (nI (cn + i))), (5, .int (nI i)), (0, .ref h), (1, .int (nI q)), (2, .int (nI k)), (3, .int a), (4, .int b)]) hx hb dX0_putAt_37 hl (by decide) rfl (fun ls hl => ?_)
        refine lv_aload_n hx hb dX0_putAt_39 rfl (lv_at hl 2 rfl) ?_
        refine va_get (D := D) (ci := 0) (v := .ref r1) (C := RX0) (T := TX0) (N := 4) hx hb hts hu hown hK hP 0 rfl rfl 0 (by decide) hF9 (fun _ h9 => h9) rfl dX0_putAt_40 ?_
        refine lv_iload_n hx hb dX0_putAt_43 rfl (lv_at hl 3 rfl) ?_
        refine lv_iload hx hb dX0_putAt_44 (lv_at hl 1 rfl) ?_
        refine lv_iadd hx hb dX0_putAt_46 ?_
        refine q_top (nI (q + i)) (nI_add _ _) ?_
        refine lv_iload hx hb dX0_putAt_47 (lv_at hl 0 rfl) ?_
        refine q_iast hx hb hK hP hD hS 1 0 rfl rfl (q + i) (by omega) (Nat.le_refl _) rfl dX0_putAt_49 (fun H locs hP hD hS => ?_)
        have hP : va_P D vwD (wX h r1 f1 s1 cI (upd (rk_pu R cn q k i) (q + i) (nI (cn + i))) (rk_fl F cn i a) (rk_fl S cn i b) cn tl) H := hP
        have hD : va_D A (wX h r1 f1 s1 cI (upd (rk_pu R cn q k i) (q + i) (nI (cn + i))) (rk_fl F cn i a) (rk_fl S cn i b) cn tl) := hD
        rw [rk_pu_s] at hP hD
        refine lv_aload_n hx hb dX0_putAt_50 rfl (lv_at hl 2 rfl) ?_
        refine va_get (D := D) (ci := 0) (v := .ref f1) (C := RX0) (T := TX0) (N := 4) hx hb hts hu hown hK hP 0 rfl rfl 1 (by decide) hF13 (fun _ h9 => h9) rfl dX0_putAt_51 ?_
        refine lv_iload hx hb dX0_putAt_54 (lv_at hl 0 rfl) ?_
        refine lv_iload_n hx hb dX0_putAt_56 rfl (lv_at hl 5 rfl) ?_
        refine q_iast hx hb hK hP hD hS 2 0 rfl rfl (cn + i) (by omega) (Nat.le_refl _) rfl dX0_putAt_57 (fun H locs hP hD hS => ?_)
        have hP : va_P D vwD (wX h r1 f1 s1 cI (rk_pu R cn q k (i + 1)) (upd (rk_fl F cn i a) (cn + i) a) (rk_fl S cn i b) cn tl) H := hP
        have hD : va_D A (wX h r1 f1 s1 cI (rk_pu R cn q k (i + 1)) (upd (rk_fl F cn i a) (cn + i) a) (rk_fl S cn i b) cn tl) := hD
        rw [rk_fl_s] at hP hD
        refine lv_aload_n hx hb dX0_putAt_58 rfl (lv_at hl 2 rfl) ?_
        refine va_get (D := D) (ci := 0) (v := .ref s1) (C := RX0) (T := TX0) (N := 4) hx hb hts hu hown hK hP 0 rfl rfl 2 (by decide) hF16 (fun _ h9 => h9) rfl dX0_putAt_59 ?_
        refine lv_iload hx hb dX0_putAt_62 (lv_at hl 0 rfl) ?_
        refine lv_iload hx hb dX0_putAt_64 (lv_at hl 6 rfl) ?_
        refine q_iast hx hb hK hP hD hS 3 0 rfl rfl (cn + i) (by omega) (Nat.le_refl _) rfl dX0_putAt_66 (fun H locs hP hD hS => ?_)
        have hP : va_P D vwD (wX h r1 f1 s1 cI (rk_pu R cn q k (i + 1)) (rk_fl F cn (i + 1) a) (upd (rk_fl S cn i b) (cn + i) b) cn tl) H := hP
        have hD : va_D A (wX h r1 f1 s1 cI (rk_pu R cn q k (i + 1)) (rk_fl F cn (i + 1) a) (upd (rk_fl S cn i b) (cn + i) b) cn tl) := hD
        rw [rk_fl_s] at hP hD
        refine lv_iinc (k := 1) (v := nI (i + 1)) (lv' := [(5, .int (nI (i + 1))), (6, .int (nI (cn + i))), (0, .ref h), (1, .int (nI q)), (2, .int (nI k)), (3, .int a), (4, .int b)]) hx hb dX0_putAt_67 hl rfl (by rw [(by decide : Int32.ofInt 1 = 1)]; exact nI_1 _) (by decide) rfl (fun ls hl => ?_)
        refine lv_goto (tgt := 24) hx hb dX0_putAt_70 (by decide) ?_
        exact ih (i + 1) (by omega) (by omega) H locs hP hD hS ls (lv_sub hl [0, 2, 3, 4, 5, 6] rfl)
  have hP : va_P D vwD (wX h r1 f1 s1 cI (rk_pu R cn q k 0) (rk_fl F cn 0 a) (rk_fl S cn 0 b) cn tl) H := by rw [rk_fl_0, rk_fl_0]; exact hP
  have hD : va_D A (wX h r1 f1 s1 cI (rk_pu R cn q k 0) (rk_fl F cn 0 a) (rk_fl S cn 0 b) cn tl) := by rw [rk_fl_0, rk_fl_0]; exact hD
  exact loop (k + 1) 0 (by omega) (Nat.zero_le _) H locs hP hD hS ls hl
set_option maxHeartbeats 4000000 in
set_option maxRecDepth 100000 in
theorem k_en (l : Launch) (D : va_G) (ad : Nat → Nat) (cI cJ : ClassId) (tl : va_W) (h r1 f1 s1 : Nat) (R F S : Nat → Int32) (cn : Nat)  : uI l yX0_entries wsX0_entries ({ frames := 0, cells := 0, slots := 0, locals := 0 } : Room) D ad [(cI, .int), (cJ, .long)] [.ref h] (wX h r1 f1 s1 cI R F S cn tl) (wX h r1 f1 s1 cI R F S cn tl) (nI cn) 0 0 := by
  unfold uI
  refine st_M (Qc := qI D [(cI, .int), (cJ, .long)] (wX h r1 f1 s1 cI R F S cn tl) (nI cn)) (mc := 0) (ms := 0) (cc := cX0_entries) (maxL := 1) (ret := (some .int)) [.ref h] (by decide) rfl (Nat.le_of_ble_eq_true rfl) (fun p en s m below meth c A ls hx hb hr hlocks hml hts hown hA hS hP hK hD hX hl => ?_)
  have hown : s.vm.findClass RX0 = some m.cls := hown
  have hl : lv_has ls 1 [(0, .ref h)] := hl
  have hu : ∀ w ∈ u_ws RX0 TX0 4, w ∈ wsX0_entries := by decide +kernel
  have hF19 := hts (.fieldLink RX0 19 "RankRows" "count" "I") (by decide +kernel)
  refine lv_aload_n hx hb dX0_entries_0 rfl (lv_at hl 0 rfl) ?_
  refine va_get (D := D) (ci := 0) (v := .int (nI cn)) (C := RX0) (T := TX0) (N := 4) hx hb hts hu hown hK hP 0 rfl rfl 3 (by decide) hF19 (fun _ h9 => h9) rfl dX0_entries_1 ?_
  exact e_i hx hb hr hlocks hP hK hD hS dX0_entries_4 (Nat.le_of_ble_eq_true rfl) (Nat.le_of_ble_eq_true rfl)
