/-! The reference: find0, sum0, next0, place0 -/
set_option maxHeartbeats 4000000 in
set_option maxRecDepth 100000 in
theorem j_find (l : Launch) (D : va_G) (ad : Nat → Nat) (cI cJ : ClassId) (p0 p1 p2 p3 p4 : Nat × va_E) (h r1 f1 s1 : Nat) (R F S : Nat → Int32) (cn : Nat) (th : Int32) (q : Int32) (hl9 : l.stackTraces = false) (hR : rk_ok R cn) : uT l yZ_find0 wsZ_find0 ({ frames := 7, cells := 1, slots := 6, locals := 140 } : Room) D ad [(cI, .int), (cJ, .long)] [.ref h, .int q] (wM p0 p1 p2 p3 p4 h r1 f1 s1 cI R F S cn th) (wM p0 p1 p2 p3 p4 h r1 f1 s1 cI R F S cn th) (rk_kD R F q cn) (R (rk_fd R F q cn)) := by
  unfold uT
  refine st_T (Qc := qT D [(cI, .int), (cJ, .long)] (wM p0 p1 p2 p3 p4 h r1 f1 s1 cI R F S cn th) (rk_kD R F q cn) (R (rk_fd R F q cn))) (XC := xT D [(cI, .int), (cJ, .long)] (wM p0 p1 p2 p3 p4 h r1 f1 s1 cI R F S cn th) (rk_kD R F q cn)) (mc := 1) (ms := 6) (cc := cZ_find0) (maxL := 4) (ret := (some .int)) [.ref h, .int q] (by decide) rfl (Nat.le_of_ble_eq_true rfl) (fun p en s m below meth c A ls hex hx hb hr hlocks hml hts hown hA hS hP hK hD hX hl => ?_)
  have hown : s.vm.findClass RZ = some m.cls := hown
  have hl : lv_has ls 4 [(0, .ref h), (1, .int q)] := hl
  have hu : ∀ w ∈ u_ws RZ TZ 5, w ∈ wsZ_find0 := fun w h => List.mem_cons_of_mem _ (wsZ0_in w h)
  have hF9 := hts (.fieldLink RZ 9 "RankRowsModel" "row" "[I") (by decide +kernel)
  have hF13 := hts (.fieldLink RZ 13 "RankRowsModel" "first" "[I") (by decide +kernel)
  have hF22 := hts (.fieldLink RZ 22 "RankRowsModel" "many" "I") (by decide +kernel)
  have SC : CallFix p m c cZ_find0 4 s ([.ref h, .int q] : List Value).toArray wsZ_find0 RZ := ⟨hx, hb, hml, hown, hts⟩
  have hc := hR.1
  refine lv_iconst (v := 0) hx hb dZ_find0_0 (by decide) ?_
  refine lv_istore_n (lv' := [(2, .int 0), (0, .ref h), (1, .int q)]) hx hb dZ_find0_1 rfl hl (by decide) rfl (fun ls hl => ?_)
  refine lv_iconst (v := 0) hx hb dZ_find0_2 (by decide) ?_
  refine lv_istore_n (lv' := [(3, .int 0), (2, .int 0), (0, .ref h), (1, .int q)]) hx hb dZ_find0_3 rfl hl (by decide) rfl (fun ls hl => ?_)
  have loop : ∀ (d k : Nat), cn - k < d → k ≤ cn → (∀ j, j < k → ¬ q < rk_sm R F (j + 1)) → ∀ ls : Array Slot, lv_has ls 4 [(3, .int (nI k)), (2, .int (rk_sm R F k)), (0, .ref h), (1, .int q)] → W p l en ({ frames := 7, cells := 1, slots := 6, locals := 140 } : Room) s m ([.ref h, .int q] : List Value).toArray below meth c s.heap [] 0 0 (vx_MQ below (qT D [(cI, .int), (cJ, .long)] (wM p0 p1 p2 p3 p4 h r1 f1 s1 cI R F S cn th) (rk_kD R F q cn) (R (rk_fd R F q cn)) A) (xT D [(cI, .int), (cJ, .long)] (wM p0 p1 p2 p3 p4 h r1 f1 s1 cI R F S cn th) (rk_kD R F q cn) A) ([.ref h, .int q] : List Value).toArray s 1 6 A) (F0 m 4 ls []) := by
    intro d
    induction d with
    | zero => intro k hd; exact absurd hd (Nat.not_lt_zero _)
    | succ d ih =>
      intro k hd hk hno ls hl
      refine lv_iload_n hx hb dZ_find0_4 rfl (lv_at hl 0 rfl) ?_
      refine lv_aload_n hx hb dZ_find0_5 rfl (lv_at hl 2 rfl) ?_
      refine va_get (D := D) (ci := 1) (v := .int (nI cn)) (C := RZ) (T := TZ) (N := 5) hx hb hts hu hown hK hP 5 rfl rfl 3 (by decide) hF22 (fun _ h9 => h9) rfl dZ_find0_6 ?_
      refine lv_icmp_ge (tgt := 48) hx hb dZ_find0_9 (by decide) (fun h2 => ?_) (fun h2 => ?_)
      · have hkc : cn ≤ k := (nI_leI (by omega) (by omega)).mp h2
        have hfd : rk_fd R F q cn = k := rk_fd_eq hk hno (fun z => absurd z (by omega))
        exact vx_throw0 (own := RZ) (cls := "java/util/NoSuchElementException") (names := ["java/lang/RuntimeException", "java/lang/Exception"]) hx hb hl9 hown (by decide +kernel) (by decide +kernel) (hts (.classLink RZ 26 "java/util/NoSuchElementException") (by decide +kernel)) (hts (.initialized "java/util/NoSuchElementException") (by decide +kernel)) (vx_hat (L := vx_at0 RZ 28 "java/util/NoSuchElementException" ["java/lang/RuntimeException", "java/lang/Exception"]) (B := [.castable "java/util/NoSuchElementException" "java/util/NoSuchElementException", .declares ⟨"java/lang/RuntimeException", "<init>", "()V"⟩, .declares ⟨"java/lang/Exception", "<init>", "()V"⟩, .declares ⟨"java/lang/Throwable", "<init>", "()V"⟩]) (fun w hw => hts w (List.mem_cons_of_mem _ (wsR_28 w hw))) (by decide +kernel) (vx_c (va_Nw.use rfl (hX.2.1 _ (List.mem_of_getElem? (i := 1) rfl))) (vx_c (va_Nw.use rfl (hX.2.2.1 _ (List.mem_of_getElem? (i := 3) rfl))) (vx_c (va_Nw.use rfl (hX.2.2.1 _ (List.mem_of_getElem? (i := 4) rfl))) (vx_c (va_Nw.use rfl (hX.2.2.1 _ (List.mem_of_getElem? (i := 5) rfl))) (vx_n)))))) (by decide +kernel) hX.1.1 hX.1.2 hS (hl.1.trans hml.symm) dZ_find0_48 dZ_find0_51 dZ_find0_52 dZ_find0_55 (fun x h => (hex x h).elim) (Nat.le_of_ble_eq_true rfl) (Nat.le_of_ble_eq_true rfl) (Nat.le_of_ble_eq_true rfl) (Nat.le_of_ble_eq_true rfl) hlocks (r_t (rk_kD_2 (fun z => by have := z.2; omega)) (by decide) (by decide +kernel) hP hK hD hS) hS.2.2 (Nat.le_of_ble_eq_true rfl) (Nat.le_of_ble_eq_true rfl)
      · have hkc : k < cn := Nat.lt_of_not_le (fun z => h2 ((nI_leI (by omega) (by omega)).mpr z))
        obtain ⟨j, hj, hRk⟩ := hR.2.1 k hkc
        refine lv_iload_n hx hb dZ_find0_12 rfl (lv_at hl 3 rfl) ?_
        refine lv_if_lt (tgt := 48) hx hb dZ_find0_13 (by decide) (fun h1 => ?_) (fun h1 => ?_)
        · exact vx_throw0 (own := RZ) (cls := "java/util/NoSuchElementException") (names := ["java/lang/RuntimeException", "java/lang/Exception"]) hx hb hl9 hown (by decide +kernel) (by decide +kernel) (hts (.classLink RZ 26 "java/util/NoSuchElementException") (by decide +kernel)) (hts (.initialized "java/util/NoSuchElementException") (by decide +kernel)) (vx_hat (L := vx_at0 RZ 28 "java/util/NoSuchElementException" ["java/lang/RuntimeException", "java/lang/Exception"]) (B := [.castable "java/util/NoSuchElementException" "java/util/NoSuchElementException", .declares ⟨"java/lang/RuntimeException", "<init>", "()V"⟩, .declares ⟨"java/lang/Exception", "<init>", "()V"⟩, .declares ⟨"java/lang/Throwable", "<init>", "()V"⟩]) (fun w hw => hts w (List.mem_cons_of_mem _ (wsR_28 w hw))) (by decide +kernel) (vx_c (va_Nw.use rfl (hX.2.1 _ (List.mem_of_getElem? (i := 1) rfl))) (vx_c (va_Nw.use rfl (hX.2.2.1 _ (List.mem_of_getElem? (i := 3) rfl))) (vx_c (va_Nw.use rfl (hX.2.2.1 _ (List.mem_of_getElem? (i := 4) rfl))) (vx_c (va_Nw.use rfl (hX.2.2.1 _ (List.mem_of_getElem? (i := 5) rfl))) (vx_n)))))) (by decide +kernel) hX.1.1 hX.1.2 hS (hl.1.trans hml.symm) dZ_find0_48 dZ_find0_51 dZ_find0_52 dZ_find0_55 (fun x h => (hex x h).elim) (Nat.le_of_ble_eq_true rfl) (Nat.le_of_ble_eq_true rfl) (Nat.le_of_ble_eq_true rfl) (Nat.le_of_ble_eq_true rfl) hlocks (r_t (rk_kD_2 (fun z => z.1 h1)) (by decide) (by decide +kernel) hP hK hD hS) hS.2.2 (Nat.le_of_ble_eq_true rfl) (Nat.le_of_ble_eq_true rfl)
        · refine lv_iload_n hx hb dZ_find0_16 rfl (lv_at hl 1 rfl) ?_
          refine lv_aload_n hx hb dZ_find0_17 rfl (lv_at hl 2 rfl) ?_
          refine va_get (D := D) (ci := 1) (v := .ref f1) (C := RZ) (T := TZ) (N := 5) hx hb hts hu hown hK hP 5 rfl rfl 1 (by decide) hF13 (fun _ h9 => h9) rfl dZ_find0_18 ?_
          refine lv_aload_n hx hb dZ_find0_21 rfl (lv_at hl 2 rfl) ?_
          refine va_get (D := D) (ci := 1) (v := .ref r1) (C := RZ) (T := TZ) (N := 5) hx hb hts hu hown hK hP 5 rfl rfl 0 (by decide) hF9 (fun _ h9 => h9) rfl dZ_find0_22 ?_
          refine lv_iload_n hx hb dZ_find0_25 rfl (lv_at hl 0 rfl) ?_
          refine q_iald hx hb hK hP 6 0 rfl rfl k (by omega) (Nat.le_refl _) rfl dZ_find0_26 ?_
          refine q_iald hx hb hK hP 7 0 rfl rfl j (by omega) (Nat.le_refl _) hRk dZ_find0_27 ?_
          refine lv_iadd hx hb dZ_find0_28 ?_
          refine q_top (rk_sm R F (k + 1)) (by show _ = rk_sm R F k + F (R k).toNatClampNeg; rw [hRk, rk_cl j (by omega)]) ?_
          refine lv_istore_n (lv' := [(2, .int (rk_sm R F (k + 1))), (3, .int (nI k)), (0, .ref h), (1, .int q)]) hx hb dZ_find0_29 rfl hl (by decide) rfl (fun ls hl => ?_)
          refine lv_iload_n hx hb dZ_find0_30 rfl (lv_at hl 0 rfl) ?_
          refine lv_iload_n hx hb dZ_find0_31 rfl (lv_at hl 3 rfl) ?_
          refine lv_icmp_le (tgt := 42) hx hb dZ_find0_32 (by decide) (fun h3 => ?_) (fun h3 => ?_)
          · refine lv_iinc (k := 1) (v := nI (k + 1)) (lv' := [(3, .int (nI (k + 1))), (2, .int (rk_sm R F (k + 1))), (0, .ref h), (1, .int q)]) hx hb dZ_find0_42 hl rfl (by rw [(by decide : Int32.ofInt 1 = 1)]; exact nI_1 _) (by decide) rfl (fun ls hl => ?_)
            refine lv_goto (tgt := 4) hx hb dZ_find0_45 (by decide) ?_
            exact ih (k + 1) (by omega) (by omega) (fun j hj => (Nat.lt_succ_iff_lt_or_eq.mp hj).elim (fun q => hno j q) (fun q => by rw [q]; exact Int32.not_lt.mpr h3)) ls hl
          · have hfd : rk_fd R F q cn = k := rk_fd_eq hk hno (fun _ => Int32.not_le.mp h3)
            refine lv_aload_n hx hb dZ_find0_35 rfl (lv_at hl 2 rfl) ?_
            refine va_get (D := D) (ci := 1) (v := .ref r1) (C := RZ) (T := TZ) (N := 5) hx hb hts hu hown hK hP 5 rfl rfl 0 (by decide) hF9 (fun _ h9 => h9) rfl dZ_find0_36 ?_
            refine lv_iload_n hx hb dZ_find0_39 rfl (lv_at hl 1 rfl) ?_
            refine q_iald hx hb hK hP 6 0 rfl rfl k (by omega) (Nat.le_refl _) rfl dZ_find0_40 ?_
            refine q_top (R (rk_fd R F q cn)) (by rw [hfd]) ?_
            exact e_t hx hb hr hlocks (rk_kD_0 ⟨h1, by omega⟩) hP hK hD hS dZ_find0_41 (Nat.le_of_ble_eq_true rfl) (Nat.le_of_ble_eq_true rfl)
  have hl : lv_has ls 4 [(3, .int (nI 0)), (2, .int (rk_sm R F 0)), (0, .ref h), (1, .int q)] := hl
  exact loop (cn + 1) 0 (by omega) (Nat.zero_le _) (fun j q => absurd q (Nat.not_lt_zero j)) ls hl
set_option maxHeartbeats 4000000 in
set_option maxRecDepth 100000 in
theorem j_sum (l : Launch) (D : va_G) (ad : Nat → Nat) (cI cJ : ClassId) (p0 p1 p2 p3 p4 : Nat × va_E) (h r1 f1 s1 : Nat) (R F S : Nat → Int32) (cn : Nat) (th : Int32) (ee z : Int32) (hl9 : l.stackTraces = false) (hR : rk_ok R cn) : uT l yZ_sum0 wsZ_sum0 ({ frames := 7, cells := 1, slots := 6, locals := 140 } : Room) D ad [(cI, .int), (cJ, .long)] [.ref h, .int ee, .int z] (wM p0 p1 p2 p3 p4 h r1 f1 s1 cI R F S cn th) (wM p0 p1 p2 p3 p4 h r1 f1 s1 cI R F S cn th) (rk_kS ee z cn) (rk_sm R (if z = 0 then F else S) (if ee = -1 then cn else rk_pl R ee cn)) := by
  unfold uT
  refine st_T (Qc := qT D [(cI, .int), (cJ, .long)] (wM p0 p1 p2 p3 p4 h r1 f1 s1 cI R F S cn th) (rk_kS ee z cn) (rk_sm R (if z = 0 then F else S) (if ee = -1 then cn else rk_pl R ee cn))) (XC := xT D [(cI, .int), (cJ, .long)] (wM p0 p1 p2 p3 p4 h r1 f1 s1 cI R F S cn th) (rk_kS ee z cn)) (mc := 1) (ms := 6) (cc := cZ_sum0) (maxL := 5) (ret := (some .int)) [.ref h, .int ee, .int z] (by decide) rfl (Nat.le_of_ble_eq_true rfl) (fun p en s m below meth c A ls hex hx hb hr hlocks hml hts hown hA hS hP hK hD hX hl => ?_)
  have hown : s.vm.findClass RZ = some m.cls := hown
  have hl : lv_has ls 5 [(0, .ref h), (1, .int ee), (2, .int z)] := hl
  have hu : ∀ w ∈ u_ws RZ TZ 5, w ∈ wsZ_sum0 := fun w h => List.mem_cons_of_mem _ (wsZ0_in w h)
  have hF9 := hts (.fieldLink RZ 9 "RankRowsModel" "row" "[I") (by decide +kernel)
  have hF13 := hts (.fieldLink RZ 13 "RankRowsModel" "first" "[I") (by decide +kernel)
  have hF16 := hts (.fieldLink RZ 16 "RankRowsModel" "second" "[I") (by decide +kernel)
  have hF22 := hts (.fieldLink RZ 22 "RankRowsModel" "many" "I") (by decide +kernel)
  have SC : CallFix p m c cZ_sum0 5 s ([.ref h, .int ee, .int z] : List Value).toArray wsZ_sum0 RZ := ⟨hx, hb, hml, hown, hts⟩
  have hc := hR.1
  have hgo : (z = 0 ∨ z = 1) → (ee = -1 ∨ rk_E ee cn) → ∀ (H : Heap) (locs : List Loc), va_P D vwD (wM p0 p1 p2 p3 p4 h r1 f1 s1 cI R F S cn th) H → va_D A (wM p0 p1 p2 p3 p4 h r1 f1 s1 cI R F S cn th) → va_S A s.heap H locs → ∀ ls : Array Slot, lv_has ls 5 [(0, .ref h), (1, .int ee), (2, .int z)] → W p l en ({ frames := 7, cells := 1, slots := 6, locals := 140 } : Room) s m ([.ref h, .int ee, .int z] : List Value).toArray below meth c H locs 0 0 (vx_MQ below (qT D [(cI, .int), (cJ, .long)] (wM p0 p1 p2 p3 p4 h r1 f1 s1 cI R F S cn th) (rk_kS ee z cn) (rk_sm R (if z = 0 then F else S) (if ee = -1 then cn else rk_pl R ee cn)) A) (xT D [(cI, .int), (cJ, .long)] (wM p0 p1 p2 p3 p4 h r1 f1 s1 cI R F S cn th) (rk_kS ee z cn) A) ([.ref h, .int ee, .int z] : List Value).toArray s 1 6 A) (F0 m 27 ls []) := by
    intro hz he H locs hP hD hS ls hl
    refine lv_iconst (v := 0) hx hb dZ_sum0_27 (by decide) ?_
    refine lv_istore_n (lv' := [(3, .int 0), (0, .ref h), (1, .int ee), (2, .int z)]) hx hb dZ_sum0_28 rfl hl (by decide) rfl (fun ls hl => ?_)
    refine lv_iconst (v := 0) hx hb dZ_sum0_29 (by decide) ?_
    refine lv_istore (lv' := [(4, .int 0), (3, .int 0), (0, .ref h), (1, .int ee), (2, .int z)]) hx hb dZ_sum0_30 hl (by decide) rfl (fun ls hl => ?_)
    have loop : ∀ (d k : Nat), cn - k < d → k ≤ cn → (∀ j, j < k → ¬ R j = ee) → ∀ ls : Array Slot, lv_has ls 5 [(4, .int (nI k)), (3, .int (rk_sm R (if z = 0 then F else S) k)), (0, .ref h), (1, .int ee), (2, .int z)] → W p l en ({ frames := 7, cells := 1, slots := 6, locals := 140 } : Room) s m ([.ref h, .int ee, .int z] : List Value).toArray below meth c H locs 0 0 (vx_MQ below (qT D [(cI, .int), (cJ, .long)] (wM p0 p1 p2 p3 p4 h r1 f1 s1 cI R F S cn th) (rk_kS ee z cn) (rk_sm R (if z = 0 then F else S) (if ee = -1 then cn else rk_pl R ee cn)) A) (xT D [(cI, .int), (cJ, .long)] (wM p0 p1 p2 p3 p4 h r1 f1 s1 cI R F S cn th) (rk_kS ee z cn) A) ([.ref h, .int ee, .int z] : List Value).toArray s 1 6 A) (F0 m 32 ls []) := by
      intro d
      induction d with
      | zero => intro k hd; exact absurd hd (Nat.not_lt_zero _)
      | succ d ih =>
        intro k hd hk hno ls hl
        refine lv_iload hx hb dZ_sum0_32 (lv_at hl 0 rfl) ?_
        refine lv_aload_n hx hb dZ_sum0_34 rfl (lv_at hl 2 rfl) ?_
        refine va_get (D := D) (ci := 1) (v := .int (nI cn)) (C := RZ) (T := TZ) (N := 5) hx hb hts hu hown hK hP 5 rfl rfl 3 (by decide) hF22 (fun _ h9 => h9) rfl dZ_sum0_35 ?_
        refine lv_icmp_ge (tgt := 92) hx hb dZ_sum0_38 (by decide) (fun h1 => ?_) (fun h1 => ?_)
        · have hkc : cn ≤ k := (nI_leI (by omega) (by omega)).mp h1
          have hpl : rk_pl R ee cn = k := rk_pl_eq hk hno (fun q => absurd q (by omega))
          refine lv_iload_n hx hb dZ_sum0_92 rfl (lv_at hl 1 rfl) ?_
          refine q_top (rk_sm R (if z = 0 then F else S) (if ee = -1 then cn else rk_pl R ee cn)) (by rw [rk_end hR, hpl]) ?_
          exact e_t hx hb hr hlocks (rk_kS_0 hz he) hP hK hD hS dZ_sum0_93 (Nat.le_of_ble_eq_true rfl) (Nat.le_of_ble_eq_true rfl)
        · have hkc : k < cn := Nat.lt_of_not_le (fun z9 => h1 ((nI_leI (by omega) (by omega)).mpr z9))
          obtain ⟨j, hj, hRk⟩ := hR.2.1 k hkc
          refine lv_aload_n hx hb dZ_sum0_41 rfl (lv_at hl 2 rfl) ?_
          refine va_get (D := D) (ci := 1) (v := .ref r1) (C := RZ) (T := TZ) (N := 5) hx hb hts hu hown hK hP 5 rfl rfl 0 (by decide) hF9 (fun _ h9 => h9) rfl dZ_sum0_42 ?_
          refine lv_iload hx hb dZ_sum0_45 (lv_at hl 0 rfl) ?_
          refine q_iald hx hb hK hP 6 0 rfl rfl k (by omega) (Nat.le_refl _) rfl dZ_sum0_47 ?_
          refine lv_iload_n hx hb dZ_sum0_48 rfl (lv_at hl 3 rfl) ?_
          refine lv_icmp_eq (tgt := 92) hx hb dZ_sum0_49 (by decide) (fun h2 => ?_) (fun h2 => ?_)
          · have hpl : rk_pl R ee cn = k := rk_pl_eq hk hno (fun _ => h2)
            refine lv_iload_n hx hb dZ_sum0_92 rfl (lv_at hl 1 rfl) ?_
            refine q_top (rk_sm R (if z = 0 then F else S) (if ee = -1 then cn else rk_pl R ee cn)) (by rw [rk_end hR, hpl]) ?_
            exact e_t hx hb hr hlocks (rk_kS_0 hz he) hP hK hD hS dZ_sum0_93 (Nat.le_of_ble_eq_true rfl) (Nat.le_of_ble_eq_true rfl)
          · refine lv_iload_n hx hb dZ_sum0_52 rfl (lv_at hl 1 rfl) ?_
            refine lv_iload_n hx hb dZ_sum0_53 rfl (lv_at hl 4 rfl) ?_
            refine lv_if_ne (tgt := 72) hx hb dZ_sum0_54 (by decide) (fun h3 => ?_) (fun h3 => ?_)
            · refine lv_aload_n hx hb dZ_sum0_72 rfl (lv_at hl 2 rfl) ?_
              refine va_get (D := D) (ci := 1) (v := .ref s1) (C := RZ) (T := TZ) (N := 5) hx hb hts hu hown hK hP 5 rfl rfl 2 (by decide) hF16 (fun _ h9 => h9) rfl dZ_sum0_73 ?_
              refine lv_aload_n hx hb dZ_sum0_76 rfl (lv_at hl 2 rfl) ?_
              refine va_get (D := D) (ci := 1) (v := .ref r1) (C := RZ) (T := TZ) (N := 5) hx hb hts hu hown hK hP 5 rfl rfl 0 (by decide) hF9 (fun _ h9 => h9) rfl dZ_sum0_77 ?_
              refine lv_iload hx hb dZ_sum0_80 (lv_at hl 0 rfl) ?_
              refine q_iald hx hb hK hP 6 0 rfl rfl k (by omega) (Nat.le_refl _) rfl dZ_sum0_82 ?_
              refine q_iald hx hb hK hP 8 0 rfl rfl j (by omega) (Nat.le_refl _) hRk dZ_sum0_83 ?_
              refine lv_iadd hx hb dZ_sum0_84 ?_
              refine q_top (rk_sm R (if z = 0 then F else S) (k + 1)) (by show _ = rk_sm R (if z = 0 then F else S) k + (if z = 0 then F else S) (R k).toNatClampNeg; rw [hRk, rk_cl j (by omega), if_neg h3]) ?_
              refine lv_istore_n (lv' := [(3, .int (rk_sm R (if z = 0 then F else S) (k + 1))), (4, .int (nI k)), (0, .ref h), (1, .int ee), (2, .int z)]) hx hb dZ_sum0_85 rfl hl (by decide) rfl (fun ls hl => ?_)
              refine lv_iinc (k := 1) (v := nI (k + 1)) (lv' := [(4, .int (nI (k + 1))), (3, .int (rk_sm R (if z = 0 then F else S) (k + 1))), (0, .ref h), (1, .int ee), (2, .int z)]) hx hb dZ_sum0_86 hl rfl (by rw [(by decide : Int32.ofInt 1 = 1)]; exact nI_1 _) (by decide) rfl (fun ls hl => ?_)
              refine lv_goto (tgt := 32) hx hb dZ_sum0_89 (by decide) ?_
              exact ih (k + 1) (by omega) (by omega) (fun j hj => (Nat.lt_succ_iff_lt_or_eq.mp hj).elim (fun q => hno j q) (fun q => by rw [q]; exact h2)) ls hl
            · refine lv_aload_n hx hb dZ_sum0_57 rfl (lv_at hl 2 rfl) ?_
              refine va_get (D := D) (ci := 1) (v := .ref f1) (C := RZ) (T := TZ) (N := 5) hx hb hts hu hown hK hP 5 rfl rfl 1 (by decide) hF13 (fun _ h9 => h9) rfl dZ_sum0_58 ?_
              refine lv_aload_n hx hb dZ_sum0_61 rfl (lv_at hl 2 rfl) ?_
              refine va_get (D := D) (ci := 1) (v := .ref r1) (C := RZ) (T := TZ) (N := 5) hx hb hts hu hown hK hP 5 rfl rfl 0 (by decide) hF9 (fun _ h9 => h9) rfl dZ_sum0_62 ?_
              refine lv_iload hx hb dZ_sum0_65 (lv_at hl 0 rfl) ?_
              refine q_iald hx hb hK hP 6 0 rfl rfl k (by omega) (Nat.le_refl _) rfl dZ_sum0_67 ?_
              refine q_iald hx hb hK hP 7 0 rfl rfl j (by omega) (Nat.le_refl _) hRk dZ_sum0_68 ?_
              refine lv_goto (tgt := 84) hx hb dZ_sum0_69 (by decide) ?_
              refine lv_iadd hx hb dZ_sum0_84 ?_
              refine q_top (rk_sm R (if z = 0 then F else S) (k + 1)) (by show _ = rk_sm R (if z = 0 then F else S) k + (if z = 0 then F else S) (R k).toNatClampNeg; rw [hRk, rk_cl j (by omega), if_pos h3]) ?_
              refine lv_istore_n (lv' := [(3, .int (rk_sm R (if z = 0 then F else S) (k + 1))), (4, .int (nI k)), (0, .ref h), (1, .int ee), (2, .int z)]) hx hb dZ_sum0_85 rfl hl (by decide) rfl (fun ls hl => ?_)
              refine lv_iinc (k := 1) (v := nI (k + 1)) (lv' := [(4, .int (nI (k + 1))), (3, .int (rk_sm R (if z = 0 then F else S) (k + 1))), (0, .ref h), (1, .int ee), (2, .int z)]) hx hb dZ_sum0_86 hl rfl (by rw [(by decide : Int32.ofInt 1 = 1)]; exact nI_1 _) (by decide) rfl (fun ls hl => ?_)
              refine lv_goto (tgt := 32) hx hb dZ_sum0_89 (by decide) ?_
              exact ih (k + 1) (by omega) (by omega) (fun j hj => (Nat.lt_succ_iff_lt_or_eq.mp hj).elim (fun q => hno j q) (fun q => by rw [q]; exact h2)) ls hl
    have hl : lv_has ls 5 [(4, .int (nI 0)), (3, .int (rk_sm R (if z = 0 then F else S) 0)), (0, .ref h), (1, .int ee), (2, .int z)] := hl
    exact loop (cn + 1) 0 (by omega) (Nat.zero_le _) (fun j q => absurd q (Nat.not_lt_zero j)) ls hl
  have hok : (z = 0 ∨ z = 1) → ∀ ls : Array Slot, lv_has ls 5 [(0, .ref h), (1, .int ee), (2, .int z)] → W p l en ({ frames := 7, cells := 1, slots := 6, locals := 140 } : Room) s m ([.ref h, .int ee, .int z] : List Value).toArray below meth c s.heap [] 0 0 (vx_MQ below (qT D [(cI, .int), (cJ, .long)] (wM p0 p1 p2 p3 p4 h r1 f1 s1 cI R F S cn th) (rk_kS ee z cn) (rk_sm R (if z = 0 then F else S) (if ee = -1 then cn else rk_pl R ee cn)) A) (xT D [(cI, .int), (cJ, .long)] (wM p0 p1 p2 p3 p4 h r1 f1 s1 cI R F S cn th) (rk_kS ee z cn) A) ([.ref h, .int ee, .int z] : List Value).toArray s 1 6 A) (F0 m 9 ls []) := by
    intro hz ls hl
    refine lv_iconst (v := 1) hx hb dZ_sum0_9 (by decide) ?_
    refine lv_goto (tgt := 14) hx hb dZ_sum0_10 (by decide) ?_
    refine r_sv (rm := ({ frames := 0, cells := 0, slots := 0, locals := 0 } : Room)) (As := [.int 1]) (rest := []) (j_ch_ok l D ad cI cJ (wM p0 p1 p2 p3 p4 h r1 f1 s1 cI R F S cn th)) SC (va_cwS 1 hts gZ_sum0_Z_check rfl rfl rfl (by decide +kernel) ⟨Nat.le_of_ble_eq_true rfl, Nat.le_of_ble_eq_true rfl⟩) hP hK hD hS hA hX rfl hl.1 rfl (Nat.le_of_ble_eq_true rfl) dZ_sum0_14 ⟨Nat.le_of_ble_eq_true rfl, Nat.le_of_ble_eq_true rfl⟩ (fun H locs hP hD hS => ?_)
    have hP : va_P D vwD (wM p0 p1 p2 p3 p4 h r1 f1 s1 cI R F S cn th) H := hP
    have hD : va_D A (wM p0 p1 p2 p3 p4 h r1 f1 s1 cI R F S cn th) := hD
    refine lv_iload_n hx hb dZ_sum0_17 rfl (lv_at hl 1 rfl) ?_
    refine lv_iconst (v := (-1)) hx hb dZ_sum0_18 (by decide) ?_
    refine lv_icmp_eq (tgt := 27) hx hb dZ_sum0_19 (by decide) (fun h3 => ?_) (fun h3 => ?_)
    · exact hgo hz (Or.inl h3) H locs hP hD hS ls hl
    · refine lv_aload_n hx hb dZ_sum0_22 rfl (lv_at hl 0 rfl) ?_
      refine lv_iload_n hx hb dZ_sum0_23 rfl (lv_at hl 1 rfl) ?_
      by_cases he : rk_E ee cn
      · refine r_v (rm := ({ frames := 0, cells := 0, slots := 0, locals := 0 } : Room)) (As := [.int ee]) (rest := []) (j_th_ok l D ad cI cJ p0 p1 p2 p3 p4 h r1 f1 s1 R F S cn th ee he) SC (cwV 1 hts gZ_sum0_Z_there rfl rfl rfl (by decide +kernel) ⟨Nat.le_of_ble_eq_true rfl, Nat.le_of_ble_eq_true rfl⟩) hP hK hD hS hA hX 5 rfl rfl rfl hl.1 rfl (Nat.le_of_ble_eq_true rfl) dZ_sum0_24 ⟨Nat.le_of_ble_eq_true rfl, Nat.le_of_ble_eq_true rfl⟩ (fun H locs hP hD hS => ?_)
        have hP : va_P D vwD (wM p0 p1 p2 p3 p4 h r1 f1 s1 cI R F S cn th) H := hP
        have hD : va_D A (wM p0 p1 p2 p3 p4 h r1 f1 s1 cI R F S cn th) := hD
        exact hgo hz (Or.inr he) H locs hP hD hS ls hl
      · exact r_x (rm := ({ frames := 6, cells := 1, slots := 6, locals := 100 } : Room)) (As := [.int ee]) (rest := []) (j_th_bad l D ad cI cJ p0 p1 p2 p3 p4 h r1 f1 s1 R F S cn th ee hl9 he) SC (cwV 1 hts gZ_sum0_Z_there rfl rfl rfl (by decide +kernel) ⟨Nat.le_of_ble_eq_true rfl, Nat.le_of_ble_eq_true rfl⟩) hP hK hD hS hA hX 5 rfl rfl rfl hl.1 rfl (Nat.le_of_ble_eq_true rfl) dZ_sum0_24 ⟨Nat.le_of_ble_eq_true rfl, Nat.le_of_ble_eq_true rfl⟩ hex hlocks (rk_kS_2 hz (fun q => q.elim h3 he)).symm (Nat.le_of_ble_eq_true rfl) (Nat.le_of_ble_eq_true rfl)
  refine lv_iload_n hx hb dZ_sum0_0 rfl (lv_at hl 2 rfl) ?_
  refine lv_if_eq (tgt := 9) hx hb dZ_sum0_1 (by decide) (fun h1 => ?_) (fun h1 => ?_)
  · exact hok (Or.inl h1) ls hl
  · refine lv_iload_n hx hb dZ_sum0_4 rfl (lv_at hl 2 rfl) ?_
    refine lv_iconst (v := 1) hx hb dZ_sum0_5 (by decide) ?_
    refine lv_icmp_ne (tgt := 13) hx hb dZ_sum0_6 (by decide) (fun h2 => ?_) (fun h2 => ?_)
    · refine lv_iconst (v := 0) hx hb dZ_sum0_13 (by decide) ?_
      exact r_sx (rm := ({ frames := 6, cells := 1, slots := 6, locals := 100 } : Room)) (As := [.int 0]) (rest := []) (j_ch_bad l D ad cI cJ (wM p0 p1 p2 p3 p4 h r1 f1 s1 cI R F S cn th) hl9) SC (va_cwS 1 hts gZ_sum0_Z_check rfl rfl rfl (by decide +kernel) ⟨Nat.le_of_ble_eq_true rfl, Nat.le_of_ble_eq_true rfl⟩) hP hK hD hS hA hX rfl hl.1 rfl (Nat.le_of_ble_eq_true rfl) dZ_sum0_14 ⟨Nat.le_of_ble_eq_true rfl, Nat.le_of_ble_eq_true rfl⟩ hex hlocks (rk_kS_1 (fun q => q.elim h1 h2)).symm (Nat.le_of_ble_eq_true rfl) (Nat.le_of_ble_eq_true rfl)
    · exact hok (Or.inr h2) ls hl
set_option maxHeartbeats 4000000 in
set_option maxRecDepth 100000 in
theorem j_next (l : Launch) (D : va_G) (ad : Nat → Nat) (cI cJ : ClassId) (p0 p1 p2 p3 p4 : Nat × va_E) (h r1 f1 s1 : Nat) (R F S : Nat → Int32) (cn : Nat) (th : Int32) (ee : Int32) (hl9 : l.stackTraces = false) (hR : rk_ok R cn) : uT l yZ_next0 wsZ_next0 ({ frames := 7, cells := 1, slots := 6, locals := 140 } : Room) D ad [(cI, .int), (cJ, .long)] [.ref h, .int ee] (wM p0 p1 p2 p3 p4 h r1 f1 s1 cI R F S cn th) (wM p0 p1 p2 p3 p4 h r1 f1 s1 cI R F S cn th) (rk_kN R ee cn) (R (rk_pb R ee cn)) := by
  unfold uT
  refine st_T (Qc := qT D [(cI, .int), (cJ, .long)] (wM p0 p1 p2 p3 p4 h r1 f1 s1 cI R F S cn th) (rk_kN R ee cn) (R (rk_pb R ee cn))) (XC := xT D [(cI, .int), (cJ, .long)] (wM p0 p1 p2 p3 p4 h r1 f1 s1 cI R F S cn th) (rk_kN R ee cn)) (mc := 1) (ms := 6) (cc := cZ_next0) (maxL := 3) (ret := (some .int)) [.ref h, .int ee] (by decide) rfl (Nat.le_of_ble_eq_true rfl) (fun p en s m below meth c A ls hex hx hb hr hlocks hml hts hown hA hS hP hK hD hX hl => ?_)
  have hown : s.vm.findClass RZ = some m.cls := hown
  have hl : lv_has ls 3 [(0, .ref h), (1, .int ee)] := hl
  have hu : ∀ w ∈ u_ws RZ TZ 5, w ∈ wsZ_next0 := fun w h => List.mem_cons_of_mem _ (wsZ0_in w h)
  have hF9 := hts (.fieldLink RZ 9 "RankRowsModel" "row" "[I") (by decide +kernel)
  have hF22 := hts (.fieldLink RZ 22 "RankRowsModel" "many" "I") (by decide +kernel)
  have SC : CallFix p m c cZ_next0 3 s ([.ref h, .int ee] : List Value).toArray wsZ_next0 RZ := ⟨hx, hb, hml, hown, hts⟩
  have hc := hR.1
  have hend : (ee = -1 ∨ rk_E ee cn) → ∀ x : Int32, x = nI (rk_pb R ee cn) → ∀ (H : Heap) (locs : List Loc), va_P D vwD (wM p0 p1 p2 p3 p4 h r1 f1 s1 cI R F S cn th) H → va_D A (wM p0 p1 p2 p3 p4 h r1 f1 s1 cI R F S cn th) → va_S A s.heap H locs → ∀ ls : Array Slot, lv_has ls 3 [(0, .ref h), (1, .int ee)] → W p l en ({ frames := 7, cells := 1, slots := 6, locals := 140 } : Room) s m ([.ref h, .int ee] : List Value).toArray below meth c H locs 0 0 (vx_MQ below (qT D [(cI, .int), (cJ, .long)] (wM p0 p1 p2 p3 p4 h r1 f1 s1 cI R F S cn th) (rk_kN R ee cn) (R (rk_pb R ee cn)) A) (xT D [(cI, .int), (cJ, .long)] (wM p0 p1 p2 p3 p4 h r1 f1 s1 cI R F S cn th) (rk_kN R ee cn) A) ([.ref h, .int ee] : List Value).toArray s 1 6 A) (F0 m 25 ls [.int x]) := by
    intro he x hxe H locs hP hD hS ls hl
    subst hxe
    have hpb := rk_pb_le hR he
    refine lv_istore_n (lv' := [(2, .int (nI (rk_pb R ee cn))), (0, .ref h), (1, .int ee)]) hx hb dZ_next0_25 rfl hl (by decide) rfl (fun ls hl => ?_)
    refine lv_iload_n hx hb dZ_next0_26 rfl (lv_at hl 0 rfl) ?_
    refine lv_aload_n hx hb dZ_next0_27 rfl (lv_at hl 1 rfl) ?_
    refine va_get (D := D) (ci := 1) (v := .int (nI cn)) (C := RZ) (T := TZ) (N := 5) hx hb hts hu hown hK hP 5 rfl rfl 3 (by decide) hF22 (fun _ h9 => h9) rfl dZ_next0_28 ?_
    refine lv_icmp_ne (tgt := 42) hx hb dZ_next0_31 (by decide) (fun h1 => ?_) (fun h1 => ?_)
    · have hlt : rk_pb R ee cn < cn := by
        have q : rk_pb R ee cn ≠ cn := fun q => h1 (by rw [q])
        omega
      refine lv_aload_n hx hb dZ_next0_42 rfl (lv_at hl 1 rfl) ?_
      refine va_get (D := D) (ci := 1) (v := .ref r1) (C := RZ) (T := TZ) (N := 5) hx hb hts hu hown hK hP 5 rfl rfl 0 (by decide) hF9 (fun _ h9 => h9) rfl dZ_next0_43 ?_
      refine lv_iload_n hx hb dZ_next0_46 rfl (lv_at hl 0 rfl) ?_
      refine q_iald hx hb hK hP 6 0 rfl rfl (rk_pb R ee cn) (by omega) (Nat.le_refl _) rfl dZ_next0_47 ?_
      exact e_t hx hb hr hlocks (rk_kN_0 ⟨he, hlt⟩) hP hK hD hS dZ_next0_48 (Nat.le_of_ble_eq_true rfl) (Nat.le_of_ble_eq_true rfl)
    · have heq : rk_pb R ee cn = cn := (nI_eq (by omega) (by omega)).mp h1
      exact vx_throw0 (own := RZ) (cls := "java/util/NoSuchElementException") (names := ["java/lang/RuntimeException", "java/lang/Exception"]) hx hb hl9 hown (by decide +kernel) (by decide +kernel) (hts (.classLink RZ 26 "java/util/NoSuchElementException") (by decide +kernel)) (hts (.initialized "java/util/NoSuchElementException") (by decide +kernel)) (vx_hat (L := vx_at0 RZ 28 "java/util/NoSuchElementException" ["java/lang/RuntimeException", "java/lang/Exception"]) (B := [.castable "java/util/NoSuchElementException" "java/util/NoSuchElementException", .declares ⟨"java/lang/RuntimeException", "<init>", "()V"⟩, .declares ⟨"java/lang/Exception", "<init>", "()V"⟩, .declares ⟨"java/lang/Throwable", "<init>", "()V"⟩]) (fun w hw => hts w (List.mem_cons_of_mem _ (wsR_28 w hw))) (by decide +kernel) (vx_c (va_Nw.use rfl (hX.2.1 _ (List.mem_of_getElem? (i := 1) rfl))) (vx_c (va_Nw.use rfl (hX.2.2.1 _ (List.mem_of_getElem? (i := 3) rfl))) (vx_c (va_Nw.use rfl (hX.2.2.1 _ (List.mem_of_getElem? (i := 4) rfl))) (vx_c (va_Nw.use rfl (hX.2.2.1 _ (List.mem_of_getElem? (i := 5) rfl))) (vx_n)))))) (by decide +kernel) hX.1.1 hX.1.2 hS (hl.1.trans hml.symm) dZ_next0_34 dZ_next0_37 dZ_next0_38 dZ_next0_41 (fun x h => (hex x h).elim) (Nat.le_of_ble_eq_true rfl) (Nat.le_of_ble_eq_true rfl) (Nat.le_of_ble_eq_true rfl) (Nat.le_of_ble_eq_true rfl) hlocks (r_t (rk_kN_2 (fun z => by have := z.2; omega)) (by decide) (by decide +kernel) hP hK hD hS) hS.2.2 (Nat.le_of_ble_eq_true rfl) (Nat.le_of_ble_eq_true rfl)
  have hgo : (ee = -1 ∨ rk_E ee cn) → ∀ (H : Heap) (locs : List Loc), va_P D vwD (wM p0 p1 p2 p3 p4 h r1 f1 s1 cI R F S cn th) H → va_D A (wM p0 p1 p2 p3 p4 h r1 f1 s1 cI R F S cn th) → va_S A s.heap H locs → ∀ ls : Array Slot, lv_has ls 3 [(0, .ref h), (1, .int ee)] → W p l en ({ frames := 7, cells := 1, slots := 6, locals := 140 } : Room) s m ([.ref h, .int ee] : List Value).toArray below meth c H locs 0 0 (vx_MQ below (qT D [(cI, .int), (cJ, .long)] (wM p0 p1 p2 p3 p4 h r1 f1 s1 cI R F S cn th) (rk_kN R ee cn) (R (rk_pb R ee cn)) A) (xT D [(cI, .int), (cJ, .long)] (wM p0 p1 p2 p3 p4 h r1 f1 s1 cI R F S cn th) (rk_kN R ee cn) A) ([.ref h, .int ee] : List Value).toArray s 1 6 A) (F0 m 10 ls []) := by
    intro he H locs hP hD hS ls hl
    refine lv_iload_n hx hb dZ_next0_10 rfl (lv_at hl 1 rfl) ?_
    refine lv_if_ge (tgt := 18) hx hb dZ_next0_11 (by decide) (fun h6 => ?_) (fun h6 => ?_)
    · have he2 : rk_E ee cn := he.resolve_left (rk_ne_m1 (rk_nn h6))
      refine lv_aload_n hx hb dZ_next0_18 rfl (lv_at hl 0 rfl) ?_
      refine lv_iload_n hx hb dZ_next0_19 rfl (lv_at hl 1 rfl) ?_
      refine r_i (rm := ({ frames := 0, cells := 0, slots := 0, locals := 0 } : Room)) (As := [.int ee]) (rest := []) (j_ir l D ad cI cJ p0 p1 p2 p3 p4 h r1 f1 s1 R F S cn th ee hc (rk_pl_E hR he2)) SC (cwV 1 hts gZ_next0_Z_inRow rfl rfl rfl (by decide +kernel) ⟨Nat.le_of_ble_eq_true rfl, Nat.le_of_ble_eq_true rfl⟩) hP hK hD hS hA hX 5 rfl rfl rfl hl.1 rfl (Nat.le_of_ble_eq_true rfl) dZ_next0_20 ⟨Nat.le_of_ble_eq_true rfl, Nat.le_of_ble_eq_true rfl⟩ (fun H locs hP hD hS => ?_)
      have hP : va_P D vwD (wM p0 p1 p2 p3 p4 h r1 f1 s1 cI R F S cn th) H := hP
      have hD : va_D A (wM p0 p1 p2 p3 p4 h r1 f1 s1 cI R F S cn th) := hD
      refine lv_iconst (v := 1) hx hb dZ_next0_23 (by decide) ?_
      refine lv_iadd hx hb dZ_next0_24 ?_
      refine q_top (nI ((rk_pl R ee cn) + 1)) (nI_1 _) ?_
      exact hend he _ (by rw [rk_pb_n (rk_ne_m1 he2.1)]) H locs hP hD hS ls hl
    · have hem : ee = -1 := he.resolve_right (fun z9 => h6 (rk_le z9.1))
      refine lv_iconst (v := 0) hx hb dZ_next0_14 (by decide) ?_
      refine lv_goto (tgt := 25) hx hb dZ_next0_15 (by decide) ?_
      exact hend he _ (by rw [hem, rk_pb_m, nI_0]) H locs hP hD hS ls hl
  refine lv_iload_n hx hb dZ_next0_0 rfl (lv_at hl 1 rfl) ?_
  refine lv_iconst (v := (-1)) hx hb dZ_next0_1 (by decide) ?_
  refine lv_icmp_eq (tgt := 10) hx hb dZ_next0_2 (by decide) (fun h3 => ?_) (fun h3 => ?_)
  · exact hgo (Or.inl h3) s.heap [] hP hD hS ls hl
  · refine lv_aload_n hx hb dZ_next0_5 rfl (lv_at hl 0 rfl) ?_
    refine lv_iload_n hx hb dZ_next0_6 rfl (lv_at hl 1 rfl) ?_
    by_cases he : rk_E ee cn
    · refine r_v (rm := ({ frames := 0, cells := 0, slots := 0, locals := 0 } : Room)) (As := [.int ee]) (rest := []) (j_th_ok l D ad cI cJ p0 p1 p2 p3 p4 h r1 f1 s1 R F S cn th ee he) SC (cwV 1 hts gZ_next0_Z_there rfl rfl rfl (by decide +kernel) ⟨Nat.le_of_ble_eq_true rfl, Nat.le_of_ble_eq_true rfl⟩) hP hK hD hS hA hX 5 rfl rfl rfl hl.1 rfl (Nat.le_of_ble_eq_true rfl) dZ_next0_7 ⟨Nat.le_of_ble_eq_true rfl, Nat.le_of_ble_eq_true rfl⟩ (fun H locs hP hD hS => ?_)
      have hP : va_P D vwD (wM p0 p1 p2 p3 p4 h r1 f1 s1 cI R F S cn th) H := hP
      have hD : va_D A (wM p0 p1 p2 p3 p4 h r1 f1 s1 cI R F S cn th) := hD
      exact hgo (Or.inr he) H locs hP hD hS ls hl
    · exact r_x (rm := ({ frames := 6, cells := 1, slots := 6, locals := 100 } : Room)) (As := [.int ee]) (rest := []) (j_th_bad l D ad cI cJ p0 p1 p2 p3 p4 h r1 f1 s1 R F S cn th ee hl9 he) SC (cwV 1 hts gZ_next0_Z_there rfl rfl rfl (by decide +kernel) ⟨Nat.le_of_ble_eq_true rfl, Nat.le_of_ble_eq_true rfl⟩) hP hK hD hS hA hX 5 rfl rfl rfl hl.1 rfl (Nat.le_of_ble_eq_true rfl) dZ_next0_7 ⟨Nat.le_of_ble_eq_true rfl, Nat.le_of_ble_eq_true rfl⟩ hex hlocks (rk_kN_2 (fun q => q.1.elim h3 he)).symm (Nat.le_of_ble_eq_true rfl) (Nat.le_of_ble_eq_true rfl)
set_option maxHeartbeats 4000000 in
set_option maxRecDepth 100000 in
theorem j_place (l : Launch) (D : va_G) (ad : Nat → Nat) (cI cJ : ClassId) (p0 p1 p2 p3 p4 : Nat × va_E) (h r1 f1 s1 : Nat) (R F S : Nat → Int32) (cn : Nat) (th : Int32) (ee : Int32) (hl9 : l.stackTraces = false) (hR : rk_ok R cn) : uT l yZ_place0 wsZ_place0 ({ frames := 7, cells := 1, slots := 6, locals := 140 } : Room) D ad [(cI, .int), (cJ, .long)] [.ref h, .int ee] (wM p0 p1 p2 p3 p4 h r1 f1 s1 cI R F S cn th) (wM p0 p1 p2 p3 p4 h r1 f1 s1 cI R F S cn th) (rk_kP ee cn) (nI (rk_pl R ee cn)) := by
  unfold uT
  refine st_T (Qc := qT D [(cI, .int), (cJ, .long)] (wM p0 p1 p2 p3 p4 h r1 f1 s1 cI R F S cn th) (rk_kP ee cn) (nI (rk_pl R ee cn))) (XC := xT D [(cI, .int), (cJ, .long)] (wM p0 p1 p2 p3 p4 h r1 f1 s1 cI R F S cn th) (rk_kP ee cn)) (mc := 1) (ms := 6) (cc := cZ_place0) (maxL := 2) (ret := (some .int)) [.ref h, .int ee] (by decide) rfl (Nat.le_of_ble_eq_true rfl) (fun p en s m below meth c A ls hex hx hb hr hlocks hml hts hown hA hS hP hK hD hX hl => ?_)
  have hown : s.vm.findClass RZ = some m.cls := hown
  have hl : lv_has ls 2 [(0, .ref h), (1, .int ee)] := hl
  have SC : CallFix p m c cZ_place0 2 s ([.ref h, .int ee] : List Value).toArray wsZ_place0 RZ := ⟨hx, hb, hml, hown, hts⟩
  have hc := hR.1
  refine lv_aload_n hx hb dZ_place0_0 rfl (lv_at hl 0 rfl) ?_
  refine lv_iload_n hx hb dZ_place0_1 rfl (lv_at hl 1 rfl) ?_
  by_cases he : rk_E ee cn
  · refine r_v (rm := ({ frames := 0, cells := 0, slots := 0, locals := 0 } : Room)) (As := [.int ee]) (rest := []) (j_th_ok l D ad cI cJ p0 p1 p2 p3 p4 h r1 f1 s1 R F S cn th ee he) SC (cwV 1 hts gZ_place0_Z_there rfl rfl rfl (by decide +kernel) ⟨Nat.le_of_ble_eq_true rfl, Nat.le_of_ble_eq_true rfl⟩) hP hK hD hS hA hX 5 rfl rfl rfl hl.1 rfl (Nat.le_of_ble_eq_true rfl) dZ_place0_2 ⟨Nat.le_of_ble_eq_true rfl, Nat.le_of_ble_eq_true rfl⟩ (fun H locs hP hD hS => ?_)
    have hP : va_P D vwD (wM p0 p1 p2 p3 p4 h r1 f1 s1 cI R F S cn th) H := hP
    have hD : va_D A (wM p0 p1 p2 p3 p4 h r1 f1 s1 cI R F S cn th) := hD
    refine lv_aload_n hx hb dZ_place0_5 rfl (lv_at hl 0 rfl) ?_
    refine lv_iload_n hx hb dZ_place0_6 rfl (lv_at hl 1 rfl) ?_
    refine r_i (rm := ({ frames := 0, cells := 0, slots := 0, locals := 0 } : Room)) (As := [.int ee]) (rest := []) (j_ir l D ad cI cJ p0 p1 p2 p3 p4 h r1 f1 s1 R F S cn th ee hc (rk_pl_E hR he)) SC (cwV 1 hts gZ_place0_Z_inRow rfl rfl rfl (by decide +kernel) ⟨Nat.le_of_ble_eq_true rfl, Nat.le_of_ble_eq_true rfl⟩) hP hK hD hS hA hX 5 rfl rfl rfl hl.1 rfl (Nat.le_of_ble_eq_true rfl) dZ_place0_7 ⟨Nat.le_of_ble_eq_true rfl, Nat.le_of_ble_eq_true rfl⟩ (fun H locs hP hD hS => ?_)
    have hP : va_P D vwD (wM p0 p1 p2 p3 p4 h r1 f1 s1 cI R F S cn th) H := hP
    have hD : va_D A (wM p0 p1 p2 p3 p4 h r1 f1 s1 cI R F S cn th) := hD
    exact e_t hx hb hr hlocks (rk_kP_0 he) hP hK hD hS dZ_place0_10 (Nat.le_of_ble_eq_true rfl) (Nat.le_of_ble_eq_true rfl)
  · exact r_x (rm := ({ frames := 6, cells := 1, slots := 6, locals := 100 } : Room)) (As := [.int ee]) (rest := []) (j_th_bad l D ad cI cJ p0 p1 p2 p3 p4 h r1 f1 s1 R F S cn th ee hl9 he) SC (cwV 1 hts gZ_place0_Z_there rfl rfl rfl (by decide +kernel) ⟨Nat.le_of_ble_eq_true rfl, Nat.le_of_ble_eq_true rfl⟩) hP hK hD hS hA hX 5 rfl rfl rfl hl.1 rfl (Nat.le_of_ble_eq_true rfl) dZ_place0_2 ⟨Nat.le_of_ble_eq_true rfl, Nat.le_of_ble_eq_true rfl⟩ hex hlocks (rk_kP_2 he).symm (Nat.le_of_ble_eq_true rfl) (Nat.le_of_ble_eq_true rfl)
