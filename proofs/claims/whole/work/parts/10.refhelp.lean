/-! The reference: its helpers -/
set_option maxHeartbeats 4000000 in
set_option maxRecDepth 100000 in
theorem j_ch_ok (l : Launch) (D : va_G) (ad : Nat → Nat) (cI cJ : ClassId) (w0 : va_W)  : uV l yZ_check wsZ_check ({ frames := 0, cells := 0, slots := 0, locals := 0 } : Room) D ad [(cI, .int), (cJ, .long)] [.int 1] (w0) (w0) 0 0 := by
  unfold uV
  refine st_M (Qc := qV D [(cI, .int), (cJ, .long)] w0) (mc := 0) (ms := 0) (cc := cZ_check) (maxL := 1) (ret := none) [.int 1] (by decide) rfl (Nat.le_of_ble_eq_true rfl) (fun p en s m below meth c A ls hx hb hr hlocks hml hts hown hA hS hP hK hD hX hl => ?_)
  have hown : s.vm.findClass RZ = some m.cls := hown
  have hl : lv_has ls 1 [(0, .int 1)] := hl
  have SC : CallFix p m c cZ_check 1 s ([.int 1] : List Value).toArray wsZ_check RZ := ⟨hx, hb, hml, hown, hts⟩
  refine lv_iload_n hx hb dZ_check_0 rfl (lv_at hl 0 rfl) ?_
  refine lv_if_ne (tgt := 12) hx hb dZ_check_1 (by decide) (fun _ => ?_) (fun h9 => absurd h9 ((by decide : ¬ (1 : Int32) = 0)))
  exact e_v hx hb hr hlocks hP hK hD hS dZ_check_12 (Nat.le_of_ble_eq_true rfl) (Nat.le_of_ble_eq_true rfl)
set_option maxHeartbeats 4000000 in
set_option maxRecDepth 100000 in
theorem j_ch_bad (l : Launch) (D : va_G) (ad : Nat → Nat) (cI cJ : ClassId) (w0 : va_W) (hl9 : l.stackTraces = false) : uX l yZ_check wsZ_check ({ frames := 6, cells := 1, slots := 6, locals := 100 } : Room) D ad [(cI, .int), (cJ, .long)] [.int 0] (w0) 1 := by
  unfold uX
  refine st_T (Qc := qX D [(cI, .int), (cJ, .long)] w0) (XC := xT D [(cI, .int), (cJ, .long)] w0 1) (mc := 1) (ms := 6) (cc := cZ_check) (maxL := 1) (ret := none) [.int 0] (by decide) rfl (Nat.le_of_ble_eq_true rfl) (fun p en s m below meth c A ls hex hx hb hr hlocks hml hts hown hA hS hP hK hD hX hl => ?_)
  have hown : s.vm.findClass RZ = some m.cls := hown
  have hl : lv_has ls 1 [(0, .int 0)] := hl
  have SC : CallFix p m c cZ_check 1 s ([.int 0] : List Value).toArray wsZ_check RZ := ⟨hx, hb, hml, hown, hts⟩
  refine lv_iload_n hx hb dZ_check_0 rfl (lv_at hl 0 rfl) ?_
  refine lv_if_ne (tgt := 12) hx hb dZ_check_1 (by decide) (fun h9 => absurd h9 (fun q => q rfl)) (fun _ => ?_)
  exact vx_throw0 (own := RZ) (cls := "java/lang/IllegalArgumentException") (names := ["java/lang/RuntimeException", "java/lang/Exception"]) hx hb hl9 hown (by decide +kernel) (by decide +kernel) (hts (.classLink RZ 19 "java/lang/IllegalArgumentException") (by decide +kernel)) (hts (.initialized "java/lang/IllegalArgumentException") (by decide +kernel)) (vx_hat (L := vx_at0 RZ 21 "java/lang/IllegalArgumentException" ["java/lang/RuntimeException", "java/lang/Exception"]) (B := [.castable "java/lang/IllegalArgumentException" "java/lang/IllegalArgumentException", .declares ⟨"java/lang/RuntimeException", "<init>", "()V"⟩, .declares ⟨"java/lang/Exception", "<init>", "()V"⟩, .declares ⟨"java/lang/Throwable", "<init>", "()V"⟩]) (fun w hw => hts w (List.mem_cons_of_mem _ (wsR_21 w hw))) (by decide +kernel) (vx_c (va_Nw.use rfl (hX.2.1 _ (List.mem_of_getElem? (i := 0) rfl))) (vx_c (va_Nw.use rfl (hX.2.2.1 _ (List.mem_of_getElem? (i := 3) rfl))) (vx_c (va_Nw.use rfl (hX.2.2.1 _ (List.mem_of_getElem? (i := 4) rfl))) (vx_c (va_Nw.use rfl (hX.2.2.1 _ (List.mem_of_getElem? (i := 5) rfl))) (vx_n)))))) (by decide +kernel) hX.1.1 hX.1.2 hS (hl.1.trans hml.symm) dZ_check_4 dZ_check_7 dZ_check_8 dZ_check_11 (fun x h => (hex x h).elim) (Nat.le_of_ble_eq_true rfl) (Nat.le_of_ble_eq_true rfl) (Nat.le_of_ble_eq_true rfl) (Nat.le_of_ble_eq_true rfl) hlocks (r_t (rfl) (by decide) (by decide +kernel) hP hK hD hS) hS.2.2 (Nat.le_of_ble_eq_true rfl) (Nat.le_of_ble_eq_true rfl)
set_option maxHeartbeats 4000000 in
set_option maxRecDepth 100000 in
theorem j_iw_1 (l : Launch) (D : va_G) (ad : Nat → Nat) (cI cJ : ClassId) (w0 : va_W) (a : Int32) (ha : rk_W a) : uI l yZ_isWeight wsZ_isWeight ({ frames := 0, cells := 0, slots := 0, locals := 0 } : Room) D ad [(cI, .int), (cJ, .long)] [.int a] (w0) (w0) (1) 0 0 := by
  unfold uI
  refine st_M (Qc := qI D [(cI, .int), (cJ, .long)] w0 1) (mc := 0) (ms := 0) (cc := cZ_isWeight) (maxL := 1) (ret := (some .boolean)) [.int a] (by decide) rfl (Nat.le_of_ble_eq_true rfl) (fun p en s m below meth c A ls hx hb hr hlocks hml hts hown hA hS hP hK hD hX hl => ?_)
  have hown : s.vm.findClass RZ = some m.cls := hown
  have hl : lv_has ls 1 [(0, .int a)] := hl
  refine lv_iload_n hx hb dZ_isWeight_0 rfl (lv_at hl 0 rfl) ?_
  refine lv_if_lt (tgt := 15) hx hb dZ_isWeight_1 (by decide) (fun h9 => absurd h9 (ha.1)) (fun _ => ?_)
  refine lv_iload_n hx hb dZ_isWeight_4 rfl (lv_at hl 0 rfl) ?_
  refine lv_sipush (v := 1000) hx hb dZ_isWeight_5 (by decide) ?_
  refine lv_icmp_gt (tgt := 15) hx hb dZ_isWeight_8 (by decide) (fun h9 => absurd h9 (ha.2)) (fun _ => ?_)
  refine lv_iconst (v := 1) hx hb dZ_isWeight_11 (by decide) ?_
  refine lv_goto (tgt := 16) hx hb dZ_isWeight_12 (by decide) ?_
  exact e_z hx hb hr rfl hlocks hP hK hD hS dZ_isWeight_16 (Nat.le_of_ble_eq_true rfl) (Nat.le_of_ble_eq_true rfl)
set_option maxHeartbeats 4000000 in
set_option maxRecDepth 100000 in
theorem j_iw_0 (l : Launch) (D : va_G) (ad : Nat → Nat) (cI cJ : ClassId) (w0 : va_W) (a : Int32) (hno : ¬ rk_W a) : uI l yZ_isWeight wsZ_isWeight ({ frames := 0, cells := 0, slots := 0, locals := 0 } : Room) D ad [(cI, .int), (cJ, .long)] [.int a] (w0) (w0) (0) 0 0 := by
  unfold uI
  refine st_M (Qc := qI D [(cI, .int), (cJ, .long)] w0 0) (mc := 0) (ms := 0) (cc := cZ_isWeight) (maxL := 1) (ret := (some .boolean)) [.int a] (by decide) rfl (Nat.le_of_ble_eq_true rfl) (fun p en s m below meth c A ls hx hb hr hlocks hml hts hown hA hS hP hK hD hX hl => ?_)
  have hown : s.vm.findClass RZ = some m.cls := hown
  have hl : lv_has ls 1 [(0, .int a)] := hl
  refine lv_iload_n hx hb dZ_isWeight_0 rfl (lv_at hl 0 rfl) ?_
  refine lv_if_lt (tgt := 15) hx hb dZ_isWeight_1 (by decide) (fun h1 => ?_) (fun h1 => ?_)
  · refine lv_iconst (v := 0) hx hb dZ_isWeight_15 (by decide) ?_
    exact e_z hx hb hr rfl hlocks hP hK hD hS dZ_isWeight_16 (Nat.le_of_ble_eq_true rfl) (Nat.le_of_ble_eq_true rfl)
  · refine lv_iload_n hx hb dZ_isWeight_4 rfl (lv_at hl 0 rfl) ?_
    refine lv_sipush (v := 1000) hx hb dZ_isWeight_5 (by decide) ?_
    refine lv_icmp_gt (tgt := 15) hx hb dZ_isWeight_8 (by decide) (fun h2 => ?_) (fun h9 => absurd ⟨h1, h9⟩ hno)
    refine lv_iconst (v := 0) hx hb dZ_isWeight_15 (by decide) ?_
    exact e_z hx hb hr rfl hlocks hP hK hD hS dZ_isWeight_16 (Nat.le_of_ble_eq_true rfl) (Nat.le_of_ble_eq_true rfl)
set_option maxHeartbeats 4000000 in
set_option maxRecDepth 100000 in
theorem j_th_ok (l : Launch) (D : va_G) (ad : Nat → Nat) (cI cJ : ClassId) (p0 p1 p2 p3 p4 : Nat × va_E) (h r1 f1 s1 : Nat) (R F S : Nat → Int32) (cn : Nat) (th : Int32) (ee : Int32) (he : rk_E ee cn) : uV l yZ_there wsZ_there ({ frames := 0, cells := 0, slots := 0, locals := 0 } : Room) D ad [(cI, .int), (cJ, .long)] [.ref h, .int ee] (wM p0 p1 p2 p3 p4 h r1 f1 s1 cI R F S cn th) (wM p0 p1 p2 p3 p4 h r1 f1 s1 cI R F S cn th) 0 0 := by
  unfold uV
  refine st_M (Qc := qV D [(cI, .int), (cJ, .long)] (wM p0 p1 p2 p3 p4 h r1 f1 s1 cI R F S cn th)) (mc := 0) (ms := 0) (cc := cZ_there) (maxL := 2) (ret := none) [.ref h, .int ee] (by decide) rfl (Nat.le_of_ble_eq_true rfl) (fun p en s m below meth c A ls hx hb hr hlocks hml hts hown hA hS hP hK hD hX hl => ?_)
  have hown : s.vm.findClass RZ = some m.cls := hown
  have hl : lv_has ls 2 [(0, .ref h), (1, .int ee)] := hl
  have hu : ∀ w ∈ u_ws RZ TZ 5, w ∈ wsZ_there := fun w h => List.mem_cons_of_mem _ (wsZ0_in w h)
  have hF22 := hts (.fieldLink RZ 22 "RankRowsModel" "many" "I") (by decide +kernel)
  have SC : CallFix p m c cZ_there 2 s ([.ref h, .int ee] : List Value).toArray wsZ_there RZ := ⟨hx, hb, hml, hown, hts⟩
  refine lv_iload_n hx hb dZ_there_0 rfl (lv_at hl 1 rfl) ?_
  refine lv_if_lt (tgt := 12) hx hb dZ_there_1 (by decide) (fun h9 => absurd h9 (he.1)) (fun _ => ?_)
  refine lv_iload_n hx hb dZ_there_4 rfl (lv_at hl 1 rfl) ?_
  refine lv_aload_n hx hb dZ_there_5 rfl (lv_at hl 0 rfl) ?_
  refine va_get (D := D) (ci := 1) (v := .int (nI cn)) (C := RZ) (T := TZ) (N := 5) hx hb hts hu hown hK hP 5 rfl rfl 3 (by decide) hF22 (fun _ h9 => h9) rfl dZ_there_6 ?_
  refine lv_icmp_lt (tgt := 20) hx hb dZ_there_9 (by decide) (fun _ => ?_) (fun h9 => absurd (he.2) h9)
  exact e_v hx hb hr hlocks hP hK hD hS dZ_there_20 (Nat.le_of_ble_eq_true rfl) (Nat.le_of_ble_eq_true rfl)
set_option maxHeartbeats 4000000 in
set_option maxRecDepth 100000 in
theorem j_th_bad (l : Launch) (D : va_G) (ad : Nat → Nat) (cI cJ : ClassId) (p0 p1 p2 p3 p4 : Nat × va_E) (h r1 f1 s1 : Nat) (R F S : Nat → Int32) (cn : Nat) (th : Int32) (ee : Int32) (hl9 : l.stackTraces = false) (hno : ¬ rk_E ee cn) : uX l yZ_there wsZ_there ({ frames := 6, cells := 1, slots := 6, locals := 100 } : Room) D ad [(cI, .int), (cJ, .long)] [.ref h, .int ee] (wM p0 p1 p2 p3 p4 h r1 f1 s1 cI R F S cn th) 2 := by
  unfold uX
  refine st_T (Qc := qX D [(cI, .int), (cJ, .long)] (wM p0 p1 p2 p3 p4 h r1 f1 s1 cI R F S cn th)) (XC := xT D [(cI, .int), (cJ, .long)] (wM p0 p1 p2 p3 p4 h r1 f1 s1 cI R F S cn th) 2) (mc := 1) (ms := 6) (cc := cZ_there) (maxL := 2) (ret := none) [.ref h, .int ee] (by decide) rfl (Nat.le_of_ble_eq_true rfl) (fun p en s m below meth c A ls hex hx hb hr hlocks hml hts hown hA hS hP hK hD hX hl => ?_)
  have hown : s.vm.findClass RZ = some m.cls := hown
  have hl : lv_has ls 2 [(0, .ref h), (1, .int ee)] := hl
  have hu : ∀ w ∈ u_ws RZ TZ 5, w ∈ wsZ_there := fun w h => List.mem_cons_of_mem _ (wsZ0_in w h)
  have hF22 := hts (.fieldLink RZ 22 "RankRowsModel" "many" "I") (by decide +kernel)
  have SC : CallFix p m c cZ_there 2 s ([.ref h, .int ee] : List Value).toArray wsZ_there RZ := ⟨hx, hb, hml, hown, hts⟩
  have hthrow : ∀ ls : Array Slot, lv_has ls 2 [(0, .ref h), (1, .int ee)] → W p l en ({ frames := 6, cells := 1, slots := 6, locals := 100 } : Room) s m ([.ref h, .int ee] : List Value).toArray below meth c s.heap [] 0 0 (vx_MQ below (qX D [(cI, .int), (cJ, .long)] (wM p0 p1 p2 p3 p4 h r1 f1 s1 cI R F S cn th) A) (xT D [(cI, .int), (cJ, .long)] (wM p0 p1 p2 p3 p4 h r1 f1 s1 cI R F S cn th) 2 A) ([.ref h, .int ee] : List Value).toArray s 1 6 A) (F0 m 12 ls []) := by
    intro ls hl
    exact vx_throw0 (own := RZ) (cls := "java/util/NoSuchElementException") (names := ["java/lang/RuntimeException", "java/lang/Exception"]) hx hb hl9 hown (by decide +kernel) (by decide +kernel) (hts (.classLink RZ 26 "java/util/NoSuchElementException") (by decide +kernel)) (hts (.initialized "java/util/NoSuchElementException") (by decide +kernel)) (vx_hat (L := vx_at0 RZ 28 "java/util/NoSuchElementException" ["java/lang/RuntimeException", "java/lang/Exception"]) (B := [.castable "java/util/NoSuchElementException" "java/util/NoSuchElementException", .declares ⟨"java/lang/RuntimeException", "<init>", "()V"⟩, .declares ⟨"java/lang/Exception", "<init>", "()V"⟩, .declares ⟨"java/lang/Throwable", "<init>", "()V"⟩]) (fun w hw => hts w (List.mem_cons_of_mem _ (wsR_28 w hw))) (by decide +kernel) (vx_c (va_Nw.use rfl (hX.2.1 _ (List.mem_of_getElem? (i := 1) rfl))) (vx_c (va_Nw.use rfl (hX.2.2.1 _ (List.mem_of_getElem? (i := 3) rfl))) (vx_c (va_Nw.use rfl (hX.2.2.1 _ (List.mem_of_getElem? (i := 4) rfl))) (vx_c (va_Nw.use rfl (hX.2.2.1 _ (List.mem_of_getElem? (i := 5) rfl))) (vx_n)))))) (by decide +kernel) hX.1.1 hX.1.2 hS (hl.1.trans hml.symm) dZ_there_12 dZ_there_15 dZ_there_16 dZ_there_19 (fun x h => (hex x h).elim) (Nat.le_of_ble_eq_true rfl) (Nat.le_of_ble_eq_true rfl) (Nat.le_of_ble_eq_true rfl) (Nat.le_of_ble_eq_true rfl) hlocks (r_t (rfl) (by decide) (by decide +kernel) hP hK hD hS) hS.2.2 (Nat.le_of_ble_eq_true rfl) (Nat.le_of_ble_eq_true rfl)
  refine lv_iload_n hx hb dZ_there_0 rfl (lv_at hl 1 rfl) ?_
  refine lv_if_lt (tgt := 12) hx hb dZ_there_1 (by decide) (fun h1 => ?_) (fun h1 => ?_)
  · exact hthrow ls hl
  · refine lv_iload_n hx hb dZ_there_4 rfl (lv_at hl 1 rfl) ?_
    refine lv_aload_n hx hb dZ_there_5 rfl (lv_at hl 0 rfl) ?_
    refine va_get (D := D) (ci := 1) (v := .int (nI cn)) (C := RZ) (T := TZ) (N := 5) hx hb hts hu hown hK hP 5 rfl rfl 3 (by decide) hF22 (fun _ h9 => h9) rfl dZ_there_6 ?_
    refine lv_icmp_lt (tgt := 20) hx hb dZ_there_9 (by decide) (fun h9 => absurd ⟨h1, h9⟩ hno) (fun h2 => ?_)
    exact hthrow ls hl
set_option maxHeartbeats 4000000 in
set_option maxRecDepth 100000 in
theorem j_ir (l : Launch) (D : va_G) (ad : Nat → Nat) (cI cJ : ClassId) (p0 p1 p2 p3 p4 : Nat × va_E) (h r1 f1 s1 : Nat) (R F S : Nat → Int32) (cn : Nat) (th : Int32) (ee : Int32) (hc : cn ≤ 4000) (hin : rk_pl R ee cn < cn) : uI l yZ_inRow wsZ_inRow ({ frames := 0, cells := 0, slots := 0, locals := 0 } : Room) D ad [(cI, .int), (cJ, .long)] [.ref h, .int ee] (wM p0 p1 p2 p3 p4 h r1 f1 s1 cI R F S cn th) (wM p0 p1 p2 p3 p4 h r1 f1 s1 cI R F S cn th) (nI (rk_pl R ee cn)) 0 0 := by
  unfold uI
  refine st_M (Qc := qI D [(cI, .int), (cJ, .long)] (wM p0 p1 p2 p3 p4 h r1 f1 s1 cI R F S cn th) (nI (rk_pl R ee cn))) (mc := 0) (ms := 0) (cc := cZ_inRow) (maxL := 3) (ret := (some .int)) [.ref h, .int ee] (by decide) rfl (Nat.le_of_ble_eq_true rfl) (fun p en s m below meth c A ls hx hb hr hlocks hml hts hown hA hS hP hK hD hX hl => ?_)
  have hown : s.vm.findClass RZ = some m.cls := hown
  have hl : lv_has ls 3 [(0, .ref h), (1, .int ee)] := hl
  have hu : ∀ w ∈ u_ws RZ TZ 5, w ∈ wsZ_inRow := fun w h => List.mem_cons_of_mem _ (wsZ0_in w h)
  have hF9 := hts (.fieldLink RZ 9 "RankRowsModel" "row" "[I") (by decide +kernel)
  refine lv_iconst (v := 0) hx hb dZ_inRow_0 (by decide) ?_
  refine lv_istore_n (lv' := [(2, .int 0), (0, .ref h), (1, .int ee)]) hx hb dZ_inRow_1 rfl hl (by decide) rfl (fun ls hl => ?_)
  have loop : ∀ (d k : Nat), cn - k < d → k ≤ rk_pl R ee cn → ∀ ls : Array Slot, lv_has ls 3 [(2, .int (nI k)), (0, .ref h), (1, .int ee)] → W p l en ({ frames := 0, cells := 0, slots := 0, locals := 0 } : Room) s m ([.ref h, .int ee] : List Value).toArray below meth c s.heap [] 0 0 (MQ below (qI D [(cI, .int), (cJ, .long)] (wM p0 p1 p2 p3 p4 h r1 f1 s1 cI R F S cn th) (nI (rk_pl R ee cn)) A) ([.ref h, .int ee] : List Value).toArray s 0 0 A) (F0 m 2 ls []) := by
    intro d
    induction d with
    | zero => intro k hd; exact absurd hd (Nat.not_lt_zero _)
    | succ d ih =>
      intro k hd hk ls hl
      refine lv_aload_n hx hb dZ_inRow_2 rfl (lv_at hl 1 rfl) ?_
      refine va_get (D := D) (ci := 1) (v := .ref r1) (C := RZ) (T := TZ) (N := 5) hx hb hts hu hown hK hP 5 rfl rfl 0 (by decide) hF9 (fun _ h9 => h9) rfl dZ_inRow_3 ?_
      refine lv_iload_n hx hb dZ_inRow_6 rfl (lv_at hl 0 rfl) ?_
      refine q_iald hx hb hK hP 6 0 rfl rfl k (by omega) (Nat.le_refl _) rfl dZ_inRow_7 ?_
      refine lv_iload_n hx hb dZ_inRow_8 rfl (lv_at hl 2 rfl) ?_
      refine lv_icmp_eq (tgt := 18) hx hb dZ_inRow_9 (by decide) (fun h1 => ?_) (fun h1 => ?_)
      · have hkp : k = rk_pl R ee cn := by
          rcases Nat.lt_or_ge k (rk_pl R ee cn) with q | q
          · exact absurd h1 (rk_pl_no q)
          · omega
        refine lv_iload_n hx hb dZ_inRow_18 rfl (lv_at hl 0 rfl) ?_
        refine q_top (nI (rk_pl R ee cn)) (by rw [← hkp]) ?_
        exact e_i hx hb hr hlocks hP hK hD hS dZ_inRow_19 (Nat.le_of_ble_eq_true rfl) (Nat.le_of_ble_eq_true rfl)
      · have hkp : k ≠ rk_pl R ee cn := fun q => h1 (by rw [q]; exact rk_pl_at hin)
        refine lv_iinc (k := 0) (v := nI (k + 1)) (lv' := [(2, .int (nI (k + 1))), (0, .ref h), (1, .int ee)]) hx hb dZ_inRow_12 hl rfl (by rw [(by decide : Int32.ofInt 1 = 1)]; exact nI_1 _) (by decide) rfl (fun ls hl => ?_)
        refine lv_goto (tgt := 2) hx hb dZ_inRow_15 (by decide) ?_
        exact ih (k + 1) (by omega) (by omega) ls hl
  have hl : lv_has ls 3 [(2, .int (nI 0)), (0, .ref h), (1, .int ee)] := hl
  exact loop (cn + 1) 0 (by omega) (Nat.zero_le _) ls hl
set_option maxHeartbeats 4000000 in
set_option maxRecDepth 100000 in
theorem j_op (l : Launch) (D : va_G) (ad : Nat → Nat) (cI cJ : ClassId) (p0 p1 p2 p3 p4 : Nat × va_E) (h r1 f1 s1 : Nat) (R F S : Nat → Int32) (cn : Nat) (th : Int32) (x a b : Int32) (q : Nat) (hxq : x = nI q) (hq : q ≤ cn) (hm : cn + 1 ≤ 4000) : uV l yZ_open wsZ_open ({ frames := 0, cells := 0, slots := 0, locals := 0 } : Room) D ad [(cI, .int), (cJ, .long)] [.ref h, .int x, .int a, .int b] (wM p0 p1 p2 p3 p4 h r1 f1 s1 cI R F S cn th) (wM p0 p1 p2 p3 p4 h r1 f1 s1 cI (rk_in R cn q 1) (rk_fl F cn 1 a) (rk_fl S cn 1 b) (cn + 1) th) 0 0 := by
  subst hxq
  unfold uV
  refine st_M (Qc := qV D [(cI, .int), (cJ, .long)] (wM p0 p1 p2 p3 p4 h r1 f1 s1 cI (rk_in R cn q 1) (rk_fl F cn 1 a) (rk_fl S cn 1 b) (cn + 1) th)) (mc := 0) (ms := 0) (cc := cZ_open) (maxL := 5) (ret := none) [.ref h, .int (nI q), .int a, .int b] (by decide) rfl (Nat.le_of_ble_eq_true rfl) (fun p en s m below meth c A ls hx hb hr hlocks hml hts hown hA hS hP hK hD hX hl => ?_)
  have hown : s.vm.findClass RZ = some m.cls := hown
  have hl : lv_has ls 5 [(0, .ref h), (1, .int (nI q)), (2, .int a), (3, .int b)] := hl
  have hu : ∀ w ∈ u_ws RZ TZ 5, w ∈ wsZ_open := fun w h => List.mem_cons_of_mem _ (wsZ0_in w h)
  have hF9 := hts (.fieldLink RZ 9 "RankRowsModel" "row" "[I") (by decide +kernel)
  have hF13 := hts (.fieldLink RZ 13 "RankRowsModel" "first" "[I") (by decide +kernel)
  have hF16 := hts (.fieldLink RZ 16 "RankRowsModel" "second" "[I") (by decide +kernel)
  have hF22 := hts (.fieldLink RZ 22 "RankRowsModel" "many" "I") (by decide +kernel)
  refine lv_aload_n hx hb dZ_open_0 rfl (lv_at hl 0 rfl) ?_
  refine va_get (D := D) (ci := 1) (v := .int (nI cn)) (C := RZ) (T := TZ) (N := 5) hx hb hts hu hown hK hP 5 rfl rfl 3 (by decide) hF22 (fun _ h9 => h9) rfl dZ_open_1 ?_
  refine lv_istore (lv' := [(4, .int (nI cn)), (0, .ref h), (1, .int (nI q)), (2, .int a), (3, .int b)]) hx hb dZ_open_4 hl (by decide) rfl (fun ls hl => ?_)
  have loop : ∀ (d k : Nat), k - q < d → q ≤ k → k ≤ cn → ∀ (H : Heap) (locs : List Loc), va_P D vwD (wM p0 p1 p2 p3 p4 h r1 f1 s1 cI (rk_sh R cn k) F S cn th) H → va_D A (wM p0 p1 p2 p3 p4 h r1 f1 s1 cI (rk_sh R cn k) F S cn th) → va_S A s.heap H locs → ∀ ls : Array Slot, lv_has ls 5 [(4, .int (nI k)), (0, .ref h), (1, .int (nI q)), (2, .int a), (3, .int b)] → W p l en ({ frames := 0, cells := 0, slots := 0, locals := 0 } : Room) s m ([.ref h, .int (nI q), .int a, .int b] : List Value).toArray below meth c H locs 0 0 (MQ below (qV D [(cI, .int), (cJ, .long)] (wM p0 p1 p2 p3 p4 h r1 f1 s1 cI (rk_in R cn q 1) (rk_fl F cn 1 a) (rk_fl S cn 1 b) (cn + 1) th) A) ([.ref h, .int (nI q), .int a, .int b] : List Value).toArray s 0 0 A) (F0 m 6 ls []) := by
    intro d
    induction d with
    | zero => intro k hd; exact absurd hd (Nat.not_lt_zero _)
    | succ d ih =>
      intro k hd hqk hkc H locs hP hD hS ls hl
      refine lv_iload hx hb dZ_open_6 (lv_at hl 0 rfl) ?_
      refine lv_iload_n hx hb dZ_open_8 rfl (lv_at hl 2 rfl) ?_
      refine lv_icmp_le (tgt := 34) hx hb dZ_open_9 (by decide) (fun h1 => ?_) (fun h1 => ?_)
      · have hkq : k = q := by have := (nI_leI (by omega) (by omega)).mp h1; omega
        rw [hkq] at hP hD
        refine lv_aload_n hx hb dZ_open_34 rfl (lv_at hl 1 rfl) ?_
        refine va_get (D := D) (ci := 1) (v := .ref r1) (C := RZ) (T := TZ) (N := 5) hx hb hts hu hown hK hP 5 rfl rfl 0 (by decide) hF9 (fun _ h9 => h9) rfl dZ_open_35 ?_
        refine lv_iload_n hx hb dZ_open_38 rfl (lv_at hl 2 rfl) ?_
        refine lv_aload_n hx hb dZ_open_39 rfl (lv_at hl 1 rfl) ?_
        refine va_get (D := D) (ci := 1) (v := .int (nI cn)) (C := RZ) (T := TZ) (N := 5) hx hb hts hu hown hK hP 5 rfl rfl 3 (by decide) hF22 (fun _ h9 => h9) rfl dZ_open_40 ?_
        refine q_iast hx hb hK hP hD hS 6 0 rfl rfl q (by omega) (Nat.le_refl _) rfl dZ_open_43 (fun H locs hP hD hS => ?_)
        have hP : va_P D vwD (wM p0 p1 p2 p3 p4 h r1 f1 s1 cI (upd (rk_sh R cn q) q (nI cn)) F S cn th) H := hP
        have hD : va_D A (wM p0 p1 p2 p3 p4 h r1 f1 s1 cI (upd (rk_sh R cn q) q (nI cn)) F S cn th) := hD
        have hs := rk_sh_p R hq
        rw [hs] at hP hD
        refine lv_aload_n hx hb dZ_open_44 rfl (lv_at hl 1 rfl) ?_
        refine va_get (D := D) (ci := 1) (v := .ref f1) (C := RZ) (T := TZ) (N := 5) hx hb hts hu hown hK hP 5 rfl rfl 1 (by decide) hF13 (fun _ h9 => h9) rfl dZ_open_45 ?_
        refine lv_aload_n hx hb dZ_open_48 rfl (lv_at hl 1 rfl) ?_
        refine va_get (D := D) (ci := 1) (v := .int (nI cn)) (C := RZ) (T := TZ) (N := 5) hx hb hts hu hown hK hP 5 rfl rfl 3 (by decide) hF22 (fun _ h9 => h9) rfl dZ_open_49 ?_
        refine lv_iload_n hx hb dZ_open_52 rfl (lv_at hl 3 rfl) ?_
        refine q_iast hx hb hK hP hD hS 7 0 rfl rfl cn (by omega) (Nat.le_refl _) rfl dZ_open_53 (fun H locs hP hD hS => ?_)
        have hP : va_P D vwD (wM p0 p1 p2 p3 p4 h r1 f1 s1 cI (rk_in R cn q 1) (upd F cn a) S cn th) H := hP
        have hD : va_D A (wM p0 p1 p2 p3 p4 h r1 f1 s1 cI (rk_in R cn q 1) (upd F cn a) S cn th) := hD
        rw [rk_fl_1] at hP hD
        refine lv_aload_n hx hb dZ_open_54 rfl (lv_at hl 1 rfl) ?_
        refine va_get (D := D) (ci := 1) (v := .ref s1) (C := RZ) (T := TZ) (N := 5) hx hb hts hu hown hK hP 5 rfl rfl 2 (by decide) hF16 (fun _ h9 => h9) rfl dZ_open_55 ?_
        refine lv_aload_n hx hb dZ_open_58 rfl (lv_at hl 1 rfl) ?_
        refine va_get (D := D) (ci := 1) (v := .int (nI cn)) (C := RZ) (T := TZ) (N := 5) hx hb hts hu hown hK hP 5 rfl rfl 3 (by decide) hF22 (fun _ h9 => h9) rfl dZ_open_59 ?_
        refine lv_iload_n hx hb dZ_open_62 rfl (lv_at hl 4 rfl) ?_
        refine q_iast hx hb hK hP hD hS 8 0 rfl rfl cn (by omega) (Nat.le_refl _) rfl dZ_open_63 (fun H locs hP hD hS => ?_)
        have hP : va_P D vwD (wM p0 p1 p2 p3 p4 h r1 f1 s1 cI (rk_in R cn q 1) (rk_fl F cn 1 a) (upd S cn b) cn th) H := hP
        have hD : va_D A (wM p0 p1 p2 p3 p4 h r1 f1 s1 cI (rk_in R cn q 1) (rk_fl F cn 1 a) (upd S cn b) cn th) := hD
        rw [rk_fl_1] at hP hD
        refine lv_aload_n hx hb dZ_open_64 rfl (lv_at hl 1 rfl) ?_
        refine lv_dup hx hb dZ_open_65 rfl ?_
        refine va_get (D := D) (ci := 1) (v := .int (nI cn)) (C := RZ) (T := TZ) (N := 5) hx hb hts hu hown hK hP 5 rfl rfl 3 (by decide) hF22 (fun _ h9 => h9) rfl dZ_open_66 ?_
        refine lv_iconst (v := 1) hx hb dZ_open_69 (by decide) ?_
        refine lv_iadd hx hb dZ_open_70 ?_
        refine q_top (nI (cn + 1)) (nI_1 _) ?_
        refine va_put (D := D) (ci := 1) (v := .int (nI (cn + 1))) (ty := .int) (C := RZ) (T := TZ) (N := 5) hx hb hts hu tyZ tyZ_ok nmZ hown hK hP hD hS 5 rfl rfl 3 (by decide) hF22 (fun _ h9 => h9) rfl (by decide +kernel) rfl rfl (Nat.le_of_ble_eq_true rfl) dZ_open_71 (fun H locs hP hD hS => ?_)
        have hP : va_P D vwD (wM p0 p1 p2 p3 p4 h r1 f1 s1 cI (rk_in R cn q 1) (rk_fl F cn 1 a) (rk_fl S cn 1 b) (cn + 1) th) H := hP
        have hD : va_D A (wM p0 p1 p2 p3 p4 h r1 f1 s1 cI (rk_in R cn q 1) (rk_fl F cn 1 a) (rk_fl S cn 1 b) (cn + 1) th) := hD
        exact e_v hx hb hr hlocks hP hK hD hS dZ_open_74 (Nat.le_of_ble_eq_true rfl) (Nat.le_of_ble_eq_true rfl)
      · have hkq : q < k := Nat.lt_of_not_le (fun z9 => h1 ((nI_leI (by omega) (by omega)).mpr z9))
        obtain ⟨kk, rfl⟩ : ∃ kk, k = kk + 1 := ⟨k - 1, by omega⟩
        refine lv_aload_n hx hb dZ_open_12 rfl (lv_at hl 1 rfl) ?_
        refine va_get (D := D) (ci := 1) (v := .ref r1) (C := RZ) (T := TZ) (N := 5) hx hb hts hu hown hK hP 5 rfl rfl 0 (by decide) hF9 (fun _ h9 => h9) rfl dZ_open_13 ?_
        refine lv_iload hx hb dZ_open_16 (lv_at hl 0 rfl) ?_
        refine lv_aload_n hx hb dZ_open_18 rfl (lv_at hl 1 rfl) ?_
        refine va_get (D := D) (ci := 1) (v := .ref r1) (C := RZ) (T := TZ) (N := 5) hx hb hts hu hown hK hP 5 rfl rfl 0 (by decide) hF9 (fun _ h9 => h9) rfl dZ_open_19 ?_
        refine lv_iload hx hb dZ_open_22 (lv_at hl 0 rfl) ?_
        refine lv_iconst (v := 1) hx hb dZ_open_24 (by decide) ?_
        refine lv_isub hx hb dZ_open_25 ?_
        refine q_top (nI kk) (nI_pred kk) ?_
        refine q_iald hx hb hK hP 6 0 rfl rfl kk (by omega) (Nat.le_refl _) rfl dZ_open_26 ?_
        refine q_iast hx hb hK hP hD hS 6 0 rfl rfl (kk + 1) (by omega) (Nat.le_refl _) rfl dZ_open_27 (fun H locs hP hD hS => ?_)
        have hP : va_P D vwD (wM p0 p1 p2 p3 p4 h r1 f1 s1 cI (upd (rk_sh R cn (kk + 1)) (kk + 1) ((rk_sh R cn (kk + 1)) kk)) F S cn th) H := hP
        have hD : va_D A (wM p0 p1 p2 p3 p4 h r1 f1 s1 cI (upd (rk_sh R cn (kk + 1)) (kk + 1) ((rk_sh R cn (kk + 1)) kk)) F S cn th) := hD
        have hs := rk_sh_s R (c := cn) (k := kk) (by omega)
        rw [hs] at hP hD
        refine lv_iinc (k := 0) (v := nI kk) (lv' := [(4, .int (nI kk)), (0, .ref h), (1, .int (nI q)), (2, .int a), (3, .int b)]) hx hb dZ_open_28 hl rfl (by rw [(by decide : Int32.ofInt (-1) = -1)]; exact pk_m1 _) (by decide) rfl (fun ls hl => ?_)
        refine lv_goto (tgt := 6) hx hb dZ_open_31 (by decide) ?_
        exact ih kk (by omega) (by omega) (by omega) H locs hP hD hS ls hl
  have hP : va_P D vwD (wM p0 p1 p2 p3 p4 h r1 f1 s1 cI (rk_sh R cn cn) F S cn th) s.heap := by rw [rk_sh_c]; exact hP
  have hD : va_D A (wM p0 p1 p2 p3 p4 h r1 f1 s1 cI (rk_sh R cn cn) F S cn th) := by rw [rk_sh_c]; exact hD
  exact loop (cn + 1) cn (by omega) hq (Nat.le_refl _) s.heap [] hP hD hS ls hl
set_option maxHeartbeats 4000000 in
set_option maxRecDepth 100000 in
theorem j_en (l : Launch) (D : va_G) (ad : Nat → Nat) (cI cJ : ClassId) (p0 p1 p2 p3 p4 : Nat × va_E) (h r1 f1 s1 : Nat) (R F S : Nat → Int32) (cn : Nat) (th : Int32)  : uI l yZ_entries0 wsZ_entries0 ({ frames := 0, cells := 0, slots := 0, locals := 0 } : Room) D ad [(cI, .int), (cJ, .long)] [.ref h] (wM p0 p1 p2 p3 p4 h r1 f1 s1 cI R F S cn th) (wM p0 p1 p2 p3 p4 h r1 f1 s1 cI R F S cn th) (nI cn) 0 0 := by
  unfold uI
  refine st_M (Qc := qI D [(cI, .int), (cJ, .long)] (wM p0 p1 p2 p3 p4 h r1 f1 s1 cI R F S cn th) (nI cn)) (mc := 0) (ms := 0) (cc := cZ_entries0) (maxL := 1) (ret := (some .int)) [.ref h] (by decide) rfl (Nat.le_of_ble_eq_true rfl) (fun p en s m below meth c A ls hx hb hr hlocks hml hts hown hA hS hP hK hD hX hl => ?_)
  have hown : s.vm.findClass RZ = some m.cls := hown
  have hl : lv_has ls 1 [(0, .ref h)] := hl
  have hu : ∀ w ∈ u_ws RZ TZ 5, w ∈ wsZ_entries0 := fun w h => List.mem_cons_of_mem _ (wsZ0_in w h)
  have hF22 := hts (.fieldLink RZ 22 "RankRowsModel" "many" "I") (by decide +kernel)
  refine lv_aload_n hx hb dZ_entries0_0 rfl (lv_at hl 0 rfl) ?_
  refine va_get (D := D) (ci := 1) (v := .int (nI cn)) (C := RZ) (T := TZ) (N := 5) hx hb hts hu hown hK hP 5 rfl rfl 3 (by decide) hF22 (fun _ h9 => h9) rfl dZ_entries0_1 ?_
  exact e_i hx hb hr hlocks hP hK hD hS dZ_entries0_4 (Nat.le_of_ble_eq_true rfl) (Nat.le_of_ble_eq_true rfl)
set_option maxHeartbeats 4000000 in
set_option maxRecDepth 100000 in
theorem j_tn (l : Launch) (D : va_G) (ad : Nat → Nat) (cI cJ : ClassId) (p0 p1 p2 p3 p4 : Nat × va_E) (h r1 f1 s1 : Nat) (R F S : Nat → Int32) (cn : Nat) (th : Int32)  : uI l yZ_thrown wsZ_thrown ({ frames := 0, cells := 0, slots := 0, locals := 0 } : Room) D ad [(cI, .int), (cJ, .long)] [.ref h] (wM p0 p1 p2 p3 p4 h r1 f1 s1 cI R F S cn th) (wM p0 p1 p2 p3 p4 h r1 f1 s1 cI R F S cn th) (th) 0 0 := by
  unfold uI
  refine st_M (Qc := qI D [(cI, .int), (cJ, .long)] (wM p0 p1 p2 p3 p4 h r1 f1 s1 cI R F S cn th) th) (mc := 0) (ms := 0) (cc := cZ_thrown) (maxL := 1) (ret := (some .int)) [.ref h] (by decide) rfl (Nat.le_of_ble_eq_true rfl) (fun p en s m below meth c A ls hx hb hr hlocks hml hts hown hA hS hP hK hD hX hl => ?_)
  have hown : s.vm.findClass RZ = some m.cls := hown
  have hl : lv_has ls 1 [(0, .ref h)] := hl
  have hu : ∀ w ∈ u_ws RZ TZ 5, w ∈ wsZ_thrown := fun w h => List.mem_cons_of_mem _ (wsZ0_in w h)
  have hF52 := hts (.fieldLink RZ 52 "RankRowsModel" "thrown" "I") (by decide +kernel)
  refine lv_aload_n hx hb dZ_thrown_0 rfl (lv_at hl 0 rfl) ?_
  refine va_get (D := D) (ci := 1) (v := .int th) (C := RZ) (T := TZ) (N := 5) hx hb hts hu hown hK hP 5 rfl rfl 4 (by decide) hF52 (fun _ h9 => h9) rfl dZ_thrown_1 ?_
  exact e_i hx hb hr hlocks hP hK hD hS dZ_thrown_4 (Nat.le_of_ble_eq_true rfl) (Nat.le_of_ble_eq_true rfl)
