/-! The class: its public methods -/
set_option maxHeartbeats 4000000 in
set_option maxRecDepth 100000 in
theorem m_behind (l : Launch) (D : va_G) (ad : Nat → Nat) (cI cJ : ClassId) (tl : va_W) (h r1 f1 s1 : Nat) (R F S : Nat → Int32) (cn : Nat) (ee n a b : Int32) (hl9 : l.stackTraces = false) (hR : rk_ok R cn) : uT l yX0_behind wsX0_behind ({ frames := 8, cells := 1, slots := 6, locals := 160 } : Room) D ad [(cI, .int), (cJ, .long)] [.ref h, .int ee, .int n, .int a, .int b] (wX h r1 f1 s1 cI R F S cn tl) (wX h r1 f1 s1 cI (rk_in R cn (rk_pb R ee cn) n.toNatClampNeg) (rk_fl F cn n.toNatClampNeg a) (rk_fl S cn n.toNatClampNeg b) (cn + n.toNatClampNeg) tl) (rk_kB ee n a b cn) (nI (cn + n.toNatClampNeg) - 1) := by
  unfold uT
  refine st_T (Qc := qT D [(cI, .int), (cJ, .long)] (wX h r1 f1 s1 cI (rk_in R cn (rk_pb R ee cn) n.toNatClampNeg) (rk_fl F cn n.toNatClampNeg a) (rk_fl S cn n.toNatClampNeg b) (cn + n.toNatClampNeg) tl) (rk_kB ee n a b cn) (nI (cn + n.toNatClampNeg) - 1)) (XC := xT D [(cI, .int), (cJ, .long)] (wX h r1 f1 s1 cI R F S cn tl) (rk_kB ee n a b cn)) (mc := 1) (ms := 6) (cc := cX0_behind) (maxL := 5) (ret := (some .int)) [.ref h, .int ee, .int n, .int a, .int b] (by decide) rfl (Nat.le_of_ble_eq_true rfl) (fun p en s m below meth c A ls hex hx hb hr hlocks hml hts hown hA hS hP hK hD hX hl => ?_)
  have hown : s.vm.findClass RX0 = some m.cls := hown
  have hl : lv_has ls 5 [(0, .ref h), (1, .int ee), (2, .int n), (3, .int a), (4, .int b)] := hl
  have hu : ∀ w ∈ u_ws RX0 TX0 4, w ∈ wsX0_behind := by decide +kernel
  have hF19 := hts (.fieldLink RX0 19 "RankRows" "count" "I") (by decide +kernel)
  have SC : CallFix p m c cX0_behind 5 s ([.ref h, .int ee, .int n, .int a, .int b] : List Value).toArray wsX0_behind RX0 := ⟨hx, hb, hml, hown, hts⟩
  have hc := hR.1
  have hthrow : rk_kB ee n a b cn = 1 → ∀ ls : Array Slot, lv_has ls 5 [(0, .ref h), (1, .int ee), (2, .int n), (3, .int a), (4, .int b)] → W p l en ({ frames := 8, cells := 1, slots := 6, locals := 160 } : Room) s m ([.ref h, .int ee, .int n, .int a, .int b] : List Value).toArray below meth c s.heap [] 0 0 (vx_MQ below (qT D [(cI, .int), (cJ, .long)] (wX h r1 f1 s1 cI (rk_in R cn (rk_pb R ee cn) n.toNatClampNeg) (rk_fl F cn n.toNatClampNeg a) (rk_fl S cn n.toNatClampNeg b) (cn + n.toNatClampNeg) tl) (rk_kB ee n a b cn) (nI (cn + n.toNatClampNeg) - 1) A) (xT D [(cI, .int), (cJ, .long)] (wX h r1 f1 s1 cI R F S cn tl) (rk_kB ee n a b cn) A) ([.ref h, .int ee, .int n, .int a, .int b] : List Value).toArray s 1 6 A) (F0 m 12 ls []) := by
    intro hk1 ls hl
    exact vx_throwS (own := RX0) (cls := "java/lang/IllegalArgumentException") (names := ["java/lang/RuntimeException", "java/lang/Exception"]) hx hb hl9 hown (by decide +kernel) (by decide +kernel) (hts (.classLink RX0 23 "java/lang/IllegalArgumentException") (by decide +kernel)) (hts (.initialized "java/lang/IllegalArgumentException") (by decide +kernel)) (hX.2.2.2.2 _ (List.mem_of_getElem? (i := 0) rfl)) (vx_hat (L := vx_atS RX0 27 "java/lang/IllegalArgumentException" ["java/lang/RuntimeException", "java/lang/Exception"]) (B := [.castable "java/lang/IllegalArgumentException" "java/lang/IllegalArgumentException", .declares ⟨"java/lang/RuntimeException", "<init>", "(Ljava/lang/String;)V"⟩, .declares ⟨"java/lang/Exception", "<init>", "(Ljava/lang/String;)V"⟩, .declares ⟨"java/lang/Throwable", "<init>", "(Ljava/lang/String;)V"⟩]) (fun w hw => hts w ((by decide +kernel : ∀ w ∈ (vx_atS RX0 27 "java/lang/IllegalArgumentException" ["java/lang/RuntimeException", "java/lang/Exception"]).filter goodWord, w ∈ wsX0_behind) w hw)) (by decide +kernel) (vx_c (va_Nw.use rfl (hX.2.1 _ (List.mem_of_getElem? (i := 0) rfl))) (vx_c (va_Nw.use rfl (hX.2.2.1 _ (List.mem_of_getElem? (i := 0) rfl))) (vx_c (va_Nw.use rfl (hX.2.2.1 _ (List.mem_of_getElem? (i := 1) rfl))) (vx_c (va_Nw.use rfl (hX.2.2.1 _ (List.mem_of_getElem? (i := 2) rfl))) (vx_n)))))) (by decide +kernel) hX.1.1 hX.1.2 hS (hl.1.trans hml.symm) dX0_behind_12 dX0_behind_15 dX0_behind_16 dX0_behind_18 dX0_behind_21 (fun x h => (hex x h).elim) (Nat.le_of_ble_eq_true rfl) (Nat.le_of_ble_eq_true rfl) (Nat.le_of_ble_eq_true rfl) (Nat.le_of_ble_eq_true rfl) hlocks (r_t (hk1) (by decide) (by decide +kernel) hP hK hD hS) hS.2.2 (Nat.le_of_ble_eq_true rfl) (Nat.le_of_ble_eq_true rfl)
  refine lv_iload_n hx hb dX0_behind_0 rfl (lv_at hl 2 rfl) ?_
  refine lv_iconst (v := 1) hx hb dX0_behind_1 (by decide) ?_
  refine lv_icmp_lt (tgt := 12) hx hb dX0_behind_2 (by decide) (fun h1 => ?_) (fun h1 => ?_)
  · exact hthrow (rk_kB_1 (fun q => q.1.1 h1)) ls hl
  · refine lv_iload_n hx hb dX0_behind_5 rfl (lv_at hl 2 rfl) ?_
    refine lv_sipush (v := 200) hx hb dX0_behind_6 (by decide) ?_
    refine lv_icmp_le (tgt := 22) hx hb dX0_behind_9 (by decide) (fun h2 => ?_) (fun h2 => ?_)
    · obtain ⟨hk1, hk2, hn⟩ := rk_num h1 h2
      refine lv_iload_n hx hb dX0_behind_22 rfl (lv_at hl 3 rfl) ?_
      refine lv_iload hx hb dX0_behind_23 (lv_at hl 4 rfl) ?_
      by_cases hw : rk_W a ∧ rk_W b
      · refine r_sv (rm := ({ frames := 0, cells := 0, slots := 0, locals := 0 } : Room)) (As := [.int a, .int b]) (rest := []) (k_cw_ok l D ad cI cJ (wX h r1 f1 s1 cI R F S cn tl) a b hw.1 hw.2) SC (va_cwS 2 hts gX0_behind_X0_checkWeights rfl rfl rfl (by decide +kernel) ⟨Nat.le_of_ble_eq_true rfl, Nat.le_of_ble_eq_true rfl⟩) hP hK hD hS hA hX rfl hl.1 rfl (Nat.le_of_ble_eq_true rfl) dX0_behind_25 ⟨Nat.le_of_ble_eq_true rfl, Nat.le_of_ble_eq_true rfl⟩ (fun H locs hP hD hS => ?_)
        have hP : va_P D vwD (wX h r1 f1 s1 cI R F S cn tl) H := hP
        have hD : va_D A (wX h r1 f1 s1 cI R F S cn tl) := hD
        refine lv_aload_n hx hb dX0_behind_28 rfl (lv_at hl 0 rfl) ?_
        refine lv_iload_n hx hb dX0_behind_29 rfl (lv_at hl 1 rfl) ?_
        by_cases he : ee = -1 ∨ rk_E ee cn
        · refine r_v (rm := ({ frames := 1, cells := 0, slots := 0, locals := 40 } : Room)) (As := [.int ee]) (rest := []) (k_co_ok l D ad cI cJ tl h r1 f1 s1 R F S cn ee he) SC (cwV 1 hts gX0_behind_X0_checkEntryOrNone rfl rfl rfl (by decide +kernel) ⟨Nat.le_of_ble_eq_true rfl, Nat.le_of_ble_eq_true rfl⟩) hP hK hD hS hA hX 0 rfl rfl rfl hl.1 rfl (Nat.le_of_ble_eq_true rfl) dX0_behind_30 ⟨Nat.le_of_ble_eq_true rfl, Nat.le_of_ble_eq_true rfl⟩ (fun H locs hP hD hS => ?_)
          have hP : va_P D vwD (wX h r1 f1 s1 cI R F S cn tl) H := hP
          have hD : va_D A (wX h r1 f1 s1 cI R F S cn tl) := hD
          refine lv_aload_n hx hb dX0_behind_33 rfl (lv_at hl 0 rfl) ?_
          refine lv_iload_n hx hb dX0_behind_34 rfl (lv_at hl 2 rfl) ?_
          by_cases hm : cn + n.toNatClampNeg ≤ 4000
          · refine r_v (rm := ({ frames := 0, cells := 0, slots := 0, locals := 0 } : Room)) (As := [.int n]) (rest := []) (k_cr_ok l D ad cI cJ tl h r1 f1 s1 R F S cn n n.toNatClampNeg hn hc hk2 hm) SC (cwV 1 hts gX0_behind_X0_checkRoomFor rfl rfl rfl (by decide +kernel) ⟨Nat.le_of_ble_eq_true rfl, Nat.le_of_ble_eq_true rfl⟩) hP hK hD hS hA hX 0 rfl rfl rfl hl.1 rfl (Nat.le_of_ble_eq_true rfl) dX0_behind_35 ⟨Nat.le_of_ble_eq_true rfl, Nat.le_of_ble_eq_true rfl⟩ (fun H locs hP hD hS => ?_)
            have hP : va_P D vwD (wX h r1 f1 s1 cI R F S cn tl) H := hP
            have hD : va_D A (wX h r1 f1 s1 cI R F S cn tl) := hD
            refine lv_aload_n hx hb dX0_behind_38 rfl (lv_at hl 0 rfl) ?_
            refine lv_aload_n hx hb dX0_behind_39 rfl (lv_at hl 0 rfl) ?_
            refine lv_iload_n hx hb dX0_behind_40 rfl (lv_at hl 1 rfl) ?_
            refine r_i (rm := ({ frames := 1, cells := 0, slots := 0, locals := 40 } : Room)) (As := [.int ee]) (rest := [.ref h]) (k_pb l D ad cI cJ tl h r1 f1 s1 R F S cn ee hc) SC (cwV 1 hts gX0_behind_X0_placeBehind rfl rfl rfl (by decide +kernel) ⟨Nat.le_of_ble_eq_true rfl, Nat.le_of_ble_eq_true rfl⟩) hP hK hD hS hA hX 0 rfl rfl rfl hl.1 rfl (Nat.le_of_ble_eq_true rfl) dX0_behind_41 ⟨Nat.le_of_ble_eq_true rfl, Nat.le_of_ble_eq_true rfl⟩ (fun H locs hP hD hS => ?_)
            have hP : va_P D vwD (wX h r1 f1 s1 cI R F S cn tl) H := hP
            have hD : va_D A (wX h r1 f1 s1 cI R F S cn tl) := hD
            refine lv_iload_n hx hb dX0_behind_44 rfl (lv_at hl 2 rfl) ?_
            refine lv_iload_n hx hb dX0_behind_45 rfl (lv_at hl 3 rfl) ?_
            refine lv_iload hx hb dX0_behind_46 (lv_at hl 4 rfl) ?_
            refine r_v (rm := ({ frames := 1, cells := 0, slots := 0, locals := 100 } : Room)) (As := [.int (nI (rk_pb R ee cn)), .int n, .int a, .int b]) (rest := []) (k_pa l D ad cI cJ tl h r1 f1 s1 R F S cn (nI (rk_pb R ee cn)) n a b (rk_pb R ee cn) n.toNatClampNeg rfl hn (rk_pb_le hR he) hm) SC (cwV 4 hts gX0_behind_X0_putAt rfl rfl rfl (by decide +kernel) ⟨Nat.le_of_ble_eq_true rfl, Nat.le_of_ble_eq_true rfl⟩) hP hK hD hS hA hX 0 rfl rfl rfl hl.1 rfl (Nat.le_of_ble_eq_true rfl) dX0_behind_48 ⟨Nat.le_of_ble_eq_true rfl, Nat.le_of_ble_eq_true rfl⟩ (fun H locs hP hD hS => ?_)
            have hP : va_P D vwD (wX h r1 f1 s1 cI (rk_in R cn (rk_pb R ee cn) n.toNatClampNeg) (rk_fl F cn n.toNatClampNeg a) (rk_fl S cn n.toNatClampNeg b) (cn + n.toNatClampNeg) tl) H := hP
            have hD : va_D A (wX h r1 f1 s1 cI (rk_in R cn (rk_pb R ee cn) n.toNatClampNeg) (rk_fl F cn n.toNatClampNeg a) (rk_fl S cn n.toNatClampNeg b) (cn + n.toNatClampNeg) tl) := hD
            refine lv_aload_n hx hb dX0_behind_51 rfl (lv_at hl 0 rfl) ?_
            refine va_get (D := D) (ci := 0) (v := .int (nI (cn + n.toNatClampNeg))) (C := RX0) (T := TX0) (N := 4) hx hb hts hu hown hK hP 0 rfl rfl 3 (by decide) hF19 (fun _ h9 => h9) rfl dX0_behind_52 ?_
            refine lv_iconst (v := 1) hx hb dX0_behind_55 (by decide) ?_
            refine lv_isub hx hb dX0_behind_56 ?_
            exact e_t hx hb hr hlocks (rk_kB_0 ⟨⟨h1, h2⟩, hw⟩ he hm) hP hK hD hS dX0_behind_57 (Nat.le_of_ble_eq_true rfl) (Nat.le_of_ble_eq_true rfl)
          · exact r_x (rm := ({ frames := 6, cells := 1, slots := 6, locals := 100 } : Room)) (As := [.int n]) (rest := []) (k_cr_bad l D ad cI cJ tl h r1 f1 s1 R F S cn n n.toNatClampNeg hl9 hn hc hk2 hm) SC (cwV 1 hts gX0_behind_X0_checkRoomFor rfl rfl rfl (by decide +kernel) ⟨Nat.le_of_ble_eq_true rfl, Nat.le_of_ble_eq_true rfl⟩) hP hK hD hS hA hX 0 rfl rfl rfl hl.1 rfl (Nat.le_of_ble_eq_true rfl) dX0_behind_35 ⟨Nat.le_of_ble_eq_true rfl, Nat.le_of_ble_eq_true rfl⟩ hex hlocks (rk_kB_3 ⟨⟨h1, h2⟩, hw⟩ he hm).symm (Nat.le_of_ble_eq_true rfl) (Nat.le_of_ble_eq_true rfl)
        · exact r_x (rm := ({ frames := 7, cells := 1, slots := 6, locals := 130 } : Room)) (As := [.int ee]) (rest := []) (k_co_bad l D ad cI cJ tl h r1 f1 s1 R F S cn ee hl9 he) SC (cwV 1 hts gX0_behind_X0_checkEntryOrNone rfl rfl rfl (by decide +kernel) ⟨Nat.le_of_ble_eq_true rfl, Nat.le_of_ble_eq_true rfl⟩) hP hK hD hS hA hX 0 rfl rfl rfl hl.1 rfl (Nat.le_of_ble_eq_true rfl) dX0_behind_30 ⟨Nat.le_of_ble_eq_true rfl, Nat.le_of_ble_eq_true rfl⟩ hex hlocks (rk_kB_2 ⟨⟨h1, h2⟩, hw⟩ he).symm (Nat.le_of_ble_eq_true rfl) (Nat.le_of_ble_eq_true rfl)
      · exact r_sx (rm := ({ frames := 6, cells := 1, slots := 6, locals := 100 } : Room)) (As := [.int a, .int b]) (rest := []) (k_cw_bad l D ad cI cJ (wX h r1 f1 s1 cI R F S cn tl) a b hl9 hw) SC (va_cwS 2 hts gX0_behind_X0_checkWeights rfl rfl rfl (by decide +kernel) ⟨Nat.le_of_ble_eq_true rfl, Nat.le_of_ble_eq_true rfl⟩) hP hK hD hS hA hX rfl hl.1 rfl (Nat.le_of_ble_eq_true rfl) dX0_behind_25 ⟨Nat.le_of_ble_eq_true rfl, Nat.le_of_ble_eq_true rfl⟩ hex hlocks (rk_kB_1 (fun q => hw q.2)).symm (Nat.le_of_ble_eq_true rfl) (Nat.le_of_ble_eq_true rfl)
    · exact hthrow (rk_kB_1 (fun q => h2 q.1.2)) ls hl
set_option maxHeartbeats 4000000 in
set_option maxRecDepth 100000 in
theorem m_before (l : Launch) (D : va_G) (ad : Nat → Nat) (cI cJ : ClassId) (tl : va_W) (h r1 f1 s1 : Nat) (R F S : Nat → Int32) (cn : Nat) (ee a b : Int32) (hl9 : l.stackTraces = false) (hR : rk_ok R cn) : uT l yX0_before wsX0_before ({ frames := 8, cells := 1, slots := 6, locals := 160 } : Room) D ad [(cI, .int), (cJ, .long)] [.ref h, .int ee, .int a, .int b] (wX h r1 f1 s1 cI R F S cn tl) (wX h r1 f1 s1 cI (rk_in R cn (rk_pl R ee cn) 1) (rk_fl F cn 1 a) (rk_fl S cn 1 b) (cn + 1) tl) (rk_kF ee a b cn) (nI (cn + 1) - 1) := by
  unfold uT
  refine st_T (Qc := qT D [(cI, .int), (cJ, .long)] (wX h r1 f1 s1 cI (rk_in R cn (rk_pl R ee cn) 1) (rk_fl F cn 1 a) (rk_fl S cn 1 b) (cn + 1) tl) (rk_kF ee a b cn) (nI (cn + 1) - 1)) (XC := xT D [(cI, .int), (cJ, .long)] (wX h r1 f1 s1 cI R F S cn tl) (rk_kF ee a b cn)) (mc := 1) (ms := 6) (cc := cX0_before) (maxL := 4) (ret := (some .int)) [.ref h, .int ee, .int a, .int b] (by decide) rfl (Nat.le_of_ble_eq_true rfl) (fun p en s m below meth c A ls hex hx hb hr hlocks hml hts hown hA hS hP hK hD hX hl => ?_)
  have hown : s.vm.findClass RX0 = some m.cls := hown
  have hl : lv_has ls 4 [(0, .ref h), (1, .int ee), (2, .int a), (3, .int b)] := hl
  have hu : ∀ w ∈ u_ws RX0 TX0 4, w ∈ wsX0_before := by decide +kernel
  have hF19 := hts (.fieldLink RX0 19 "RankRows" "count" "I") (by decide +kernel)
  have SC : CallFix p m c cX0_before 4 s ([.ref h, .int ee, .int a, .int b] : List Value).toArray wsX0_before RX0 := ⟨hx, hb, hml, hown, hts⟩
  have hc := hR.1
  refine lv_iload_n hx hb dX0_before_0 rfl (lv_at hl 2 rfl) ?_
  refine lv_iload_n hx hb dX0_before_1 rfl (lv_at hl 3 rfl) ?_
  by_cases hw : rk_W a ∧ rk_W b
  · refine r_sv (rm := ({ frames := 0, cells := 0, slots := 0, locals := 0 } : Room)) (As := [.int a, .int b]) (rest := []) (k_cw_ok l D ad cI cJ (wX h r1 f1 s1 cI R F S cn tl) a b hw.1 hw.2) SC (va_cwS 2 hts gX0_before_X0_checkWeights rfl rfl rfl (by decide +kernel) ⟨Nat.le_of_ble_eq_true rfl, Nat.le_of_ble_eq_true rfl⟩) hP hK hD hS hA hX rfl hl.1 rfl (Nat.le_of_ble_eq_true rfl) dX0_before_2 ⟨Nat.le_of_ble_eq_true rfl, Nat.le_of_ble_eq_true rfl⟩ (fun H locs hP hD hS => ?_)
    have hP : va_P D vwD (wX h r1 f1 s1 cI R F S cn tl) H := hP
    have hD : va_D A (wX h r1 f1 s1 cI R F S cn tl) := hD
    refine lv_aload_n hx hb dX0_before_5 rfl (lv_at hl 0 rfl) ?_
    refine lv_iload_n hx hb dX0_before_6 rfl (lv_at hl 1 rfl) ?_
    by_cases he : rk_E ee cn
    · refine r_v (rm := ({ frames := 0, cells := 0, slots := 0, locals := 0 } : Room)) (As := [.int ee]) (rest := []) (k_ce_ok l D ad cI cJ tl h r1 f1 s1 R F S cn ee he) SC (cwV 1 hts gX0_before_X0_checkEntry rfl rfl rfl (by decide +kernel) ⟨Nat.le_of_ble_eq_true rfl, Nat.le_of_ble_eq_true rfl⟩) hP hK hD hS hA hX 0 rfl rfl rfl hl.1 rfl (Nat.le_of_ble_eq_true rfl) dX0_before_7 ⟨Nat.le_of_ble_eq_true rfl, Nat.le_of_ble_eq_true rfl⟩ (fun H locs hP hD hS => ?_)
      have hP : va_P D vwD (wX h r1 f1 s1 cI R F S cn tl) H := hP
      have hD : va_D A (wX h r1 f1 s1 cI R F S cn tl) := hD
      refine lv_aload_n hx hb dX0_before_10 rfl (lv_at hl 0 rfl) ?_
      refine lv_iconst (v := 1) hx hb dX0_before_11 (by decide) ?_
      by_cases hm : cn + 1 ≤ 4000
      · refine r_v (rm := ({ frames := 0, cells := 0, slots := 0, locals := 0 } : Room)) (As := [.int 1]) (rest := []) (k_cr_ok l D ad cI cJ tl h r1 f1 s1 R F S cn 1 1 rk_1 hc (by decide) hm) SC (cwV 1 hts gX0_before_X0_checkRoomFor rfl rfl rfl (by decide +kernel) ⟨Nat.le_of_ble_eq_true rfl, Nat.le_of_ble_eq_true rfl⟩) hP hK hD hS hA hX 0 rfl rfl rfl hl.1 rfl (Nat.le_of_ble_eq_true rfl) dX0_before_12 ⟨Nat.le_of_ble_eq_true rfl, Nat.le_of_ble_eq_true rfl⟩ (fun H locs hP hD hS => ?_)
        have hP : va_P D vwD (wX h r1 f1 s1 cI R F S cn tl) H := hP
        have hD : va_D A (wX h r1 f1 s1 cI R F S cn tl) := hD
        refine lv_aload_n hx hb dX0_before_15 rfl (lv_at hl 0 rfl) ?_
        refine lv_aload_n hx hb dX0_before_16 rfl (lv_at hl 0 rfl) ?_
        refine lv_iload_n hx hb dX0_before_17 rfl (lv_at hl 1 rfl) ?_
        refine r_i (rm := ({ frames := 0, cells := 0, slots := 0, locals := 0 } : Room)) (As := [.int ee]) (rest := [.ref h]) (k_po l D ad cI cJ tl h r1 f1 s1 R F S cn ee hc) SC (cwV 1 hts gX0_before_X0_placeOf rfl rfl rfl (by decide +kernel) ⟨Nat.le_of_ble_eq_true rfl, Nat.le_of_ble_eq_true rfl⟩) hP hK hD hS hA hX 0 rfl rfl rfl hl.1 rfl (Nat.le_of_ble_eq_true rfl) dX0_before_18 ⟨Nat.le_of_ble_eq_true rfl, Nat.le_of_ble_eq_true rfl⟩ (fun H locs hP hD hS => ?_)
        have hP : va_P D vwD (wX h r1 f1 s1 cI R F S cn tl) H := hP
        have hD : va_D A (wX h r1 f1 s1 cI R F S cn tl) := hD
        refine lv_iconst (v := 1) hx hb dX0_before_21 (by decide) ?_
        refine lv_iload_n hx hb dX0_before_22 rfl (lv_at hl 2 rfl) ?_
        refine lv_iload_n hx hb dX0_before_23 rfl (lv_at hl 3 rfl) ?_
        refine r_v (rm := ({ frames := 1, cells := 0, slots := 0, locals := 100 } : Room)) (As := [.int (nI (rk_pl R ee cn)), .int 1, .int a, .int b]) (rest := []) (k_pa l D ad cI cJ tl h r1 f1 s1 R F S cn (nI (rk_pl R ee cn)) 1 a b (rk_pl R ee cn) 1 rfl rk_1 (rk_pl_le R ee cn) hm) SC (cwV 4 hts gX0_before_X0_putAt rfl rfl rfl (by decide +kernel) ⟨Nat.le_of_ble_eq_true rfl, Nat.le_of_ble_eq_true rfl⟩) hP hK hD hS hA hX 0 rfl rfl rfl hl.1 rfl (Nat.le_of_ble_eq_true rfl) dX0_before_24 ⟨Nat.le_of_ble_eq_true rfl, Nat.le_of_ble_eq_true rfl⟩ (fun H locs hP hD hS => ?_)
        have hP : va_P D vwD (wX h r1 f1 s1 cI (rk_in R cn (rk_pl R ee cn) 1) (rk_fl F cn 1 a) (rk_fl S cn 1 b) (cn + 1) tl) H := hP
        have hD : va_D A (wX h r1 f1 s1 cI (rk_in R cn (rk_pl R ee cn) 1) (rk_fl F cn 1 a) (rk_fl S cn 1 b) (cn + 1) tl) := hD
        refine lv_aload_n hx hb dX0_before_27 rfl (lv_at hl 0 rfl) ?_
        refine va_get (D := D) (ci := 0) (v := .int (nI (cn + 1))) (C := RX0) (T := TX0) (N := 4) hx hb hts hu hown hK hP 0 rfl rfl 3 (by decide) hF19 (fun _ h9 => h9) rfl dX0_before_28 ?_
        refine lv_iconst (v := 1) hx hb dX0_before_31 (by decide) ?_
        refine lv_isub hx hb dX0_before_32 ?_
        exact e_t hx hb hr hlocks (rk_kF_0 hw he hm) hP hK hD hS dX0_before_33 (Nat.le_of_ble_eq_true rfl) (Nat.le_of_ble_eq_true rfl)
      · exact r_x (rm := ({ frames := 6, cells := 1, slots := 6, locals := 100 } : Room)) (As := [.int 1]) (rest := []) (k_cr_bad l D ad cI cJ tl h r1 f1 s1 R F S cn 1 1 hl9 rk_1 hc (by decide) hm) SC (cwV 1 hts gX0_before_X0_checkRoomFor rfl rfl rfl (by decide +kernel) ⟨Nat.le_of_ble_eq_true rfl, Nat.le_of_ble_eq_true rfl⟩) hP hK hD hS hA hX 0 rfl rfl rfl hl.1 rfl (Nat.le_of_ble_eq_true rfl) dX0_before_12 ⟨Nat.le_of_ble_eq_true rfl, Nat.le_of_ble_eq_true rfl⟩ hex hlocks (rk_kF_3 hw he hm).symm (Nat.le_of_ble_eq_true rfl) (Nat.le_of_ble_eq_true rfl)
    · exact r_x (rm := ({ frames := 6, cells := 1, slots := 6, locals := 100 } : Room)) (As := [.int ee]) (rest := []) (k_ce_bad l D ad cI cJ tl h r1 f1 s1 R F S cn ee hl9 he) SC (cwV 1 hts gX0_before_X0_checkEntry rfl rfl rfl (by decide +kernel) ⟨Nat.le_of_ble_eq_true rfl, Nat.le_of_ble_eq_true rfl⟩) hP hK hD hS hA hX 0 rfl rfl rfl hl.1 rfl (Nat.le_of_ble_eq_true rfl) dX0_before_7 ⟨Nat.le_of_ble_eq_true rfl, Nat.le_of_ble_eq_true rfl⟩ hex hlocks (rk_kF_2 hw he).symm (Nat.le_of_ble_eq_true rfl) (Nat.le_of_ble_eq_true rfl)
  · exact r_sx (rm := ({ frames := 6, cells := 1, slots := 6, locals := 100 } : Room)) (As := [.int a, .int b]) (rest := []) (k_cw_bad l D ad cI cJ (wX h r1 f1 s1 cI R F S cn tl) a b hl9 hw) SC (va_cwS 2 hts gX0_before_X0_checkWeights rfl rfl rfl (by decide +kernel) ⟨Nat.le_of_ble_eq_true rfl, Nat.le_of_ble_eq_true rfl⟩) hP hK hD hS hA hX rfl hl.1 rfl (Nat.le_of_ble_eq_true rfl) dX0_before_2 ⟨Nat.le_of_ble_eq_true rfl, Nat.le_of_ble_eq_true rfl⟩ hex hlocks (rk_kF_1 hw).symm (Nat.le_of_ble_eq_true rfl) (Nat.le_of_ble_eq_true rfl)
set_option maxHeartbeats 4000000 in
set_option maxRecDepth 100000 in
theorem m_weigh (l : Launch) (D : va_G) (ad : Nat → Nat) (cI cJ : ClassId) (tl : va_W) (h r1 f1 s1 : Nat) (R F S : Nat → Int32) (cn : Nat) (ee a b : Int32) (hl9 : l.stackTraces = false) (hR : rk_ok R cn) : uT l yX0_weigh wsX0_weigh ({ frames := 8, cells := 1, slots := 6, locals := 160 } : Room) D ad [(cI, .int), (cJ, .long)] [.ref h, .int ee, .int a, .int b] (wX h r1 f1 s1 cI R F S cn tl) (wX h r1 f1 s1 cI R (upd F ee.toNatClampNeg a) (upd S ee.toNatClampNeg b) cn tl) (rk_kW ee a b cn) (F ee.toNatClampNeg) := by
  unfold uT
  refine st_T (Qc := qT D [(cI, .int), (cJ, .long)] (wX h r1 f1 s1 cI R (upd F ee.toNatClampNeg a) (upd S ee.toNatClampNeg b) cn tl) (rk_kW ee a b cn) (F ee.toNatClampNeg)) (XC := xT D [(cI, .int), (cJ, .long)] (wX h r1 f1 s1 cI R F S cn tl) (rk_kW ee a b cn)) (mc := 1) (ms := 6) (cc := cX0_weigh) (maxL := 5) (ret := (some .int)) [.ref h, .int ee, .int a, .int b] (by decide) rfl (Nat.le_of_ble_eq_true rfl) (fun p en s m below meth c A ls hex hx hb hr hlocks hml hts hown hA hS hP hK hD hX hl => ?_)
  have hown : s.vm.findClass RX0 = some m.cls := hown
  have hl : lv_has ls 5 [(0, .ref h), (1, .int ee), (2, .int a), (3, .int b)] := hl
  have hu : ∀ w ∈ u_ws RX0 TX0 4, w ∈ wsX0_weigh := by decide +kernel
  have hF13 := hts (.fieldLink RX0 13 "RankRows" "firsts" "[I") (by decide +kernel)
  have hF16 := hts (.fieldLink RX0 16 "RankRows" "seconds" "[I") (by decide +kernel)
  have SC : CallFix p m c cX0_weigh 5 s ([.ref h, .int ee, .int a, .int b] : List Value).toArray wsX0_weigh RX0 := ⟨hx, hb, hml, hown, hts⟩
  have hc := hR.1
  refine lv_iload_n hx hb dX0_weigh_0 rfl (lv_at hl 2 rfl) ?_
  refine lv_iload_n hx hb dX0_weigh_1 rfl (lv_at hl 3 rfl) ?_
  by_cases hw : rk_W a ∧ rk_W b
  · refine r_sv (rm := ({ frames := 0, cells := 0, slots := 0, locals := 0 } : Room)) (As := [.int a, .int b]) (rest := []) (k_cw_ok l D ad cI cJ (wX h r1 f1 s1 cI R F S cn tl) a b hw.1 hw.2) SC (va_cwS 2 hts gX0_weigh_X0_checkWeights rfl rfl rfl (by decide +kernel) ⟨Nat.le_of_ble_eq_true rfl, Nat.le_of_ble_eq_true rfl⟩) hP hK hD hS hA hX rfl hl.1 rfl (Nat.le_of_ble_eq_true rfl) dX0_weigh_2 ⟨Nat.le_of_ble_eq_true rfl, Nat.le_of_ble_eq_true rfl⟩ (fun H locs hP hD hS => ?_)
    have hP : va_P D vwD (wX h r1 f1 s1 cI R F S cn tl) H := hP
    have hD : va_D A (wX h r1 f1 s1 cI R F S cn tl) := hD
    refine lv_aload_n hx hb dX0_weigh_5 rfl (lv_at hl 0 rfl) ?_
    refine lv_iload_n hx hb dX0_weigh_6 rfl (lv_at hl 1 rfl) ?_
    by_cases he : rk_E ee cn
    · refine r_v (rm := ({ frames := 0, cells := 0, slots := 0, locals := 0 } : Room)) (As := [.int ee]) (rest := []) (k_ce_ok l D ad cI cJ tl h r1 f1 s1 R F S cn ee he) SC (cwV 1 hts gX0_weigh_X0_checkEntry rfl rfl rfl (by decide +kernel) ⟨Nat.le_of_ble_eq_true rfl, Nat.le_of_ble_eq_true rfl⟩) hP hK hD hS hA hX 0 rfl rfl rfl hl.1 rfl (Nat.le_of_ble_eq_true rfl) dX0_weigh_7 ⟨Nat.le_of_ble_eq_true rfl, Nat.le_of_ble_eq_true rfl⟩ (fun H locs hP hD hS => ?_)
      have hP : va_P D vwD (wX h r1 f1 s1 cI R F S cn tl) H := hP
      have hD : va_D A (wX h r1 f1 s1 cI R F S cn tl) := hD
      obtain ⟨hj, hje⟩ := rk_entc hc he
      refine lv_aload_n hx hb dX0_weigh_10 rfl (lv_at hl 0 rfl) ?_
      refine va_get (D := D) (ci := 0) (v := .ref f1) (C := RX0) (T := TX0) (N := 4) hx hb hts hu hown hK hP 0 rfl rfl 1 (by decide) hF13 (fun _ h9 => h9) rfl dX0_weigh_11 ?_
      refine lv_iload_n hx hb dX0_weigh_14 rfl (lv_at hl 1 rfl) ?_
      refine q_iald hx hb hK hP 2 0 rfl rfl ee.toNatClampNeg (by omega) (Nat.le_refl _) hje dX0_weigh_15 ?_
      refine lv_istore (lv' := [(4, .int (F ee.toNatClampNeg)), (0, .ref h), (1, .int ee), (2, .int a), (3, .int b)]) hx hb dX0_weigh_16 hl (by decide) rfl (fun ls hl => ?_)
      refine lv_aload_n hx hb dX0_weigh_18 rfl (lv_at hl 1 rfl) ?_
      refine va_get (D := D) (ci := 0) (v := .ref f1) (C := RX0) (T := TX0) (N := 4) hx hb hts hu hown hK hP 0 rfl rfl 1 (by decide) hF13 (fun _ h9 => h9) rfl dX0_weigh_19 ?_
      refine lv_iload_n hx hb dX0_weigh_22 rfl (lv_at hl 2 rfl) ?_
      refine lv_iload_n hx hb dX0_weigh_23 rfl (lv_at hl 3 rfl) ?_
      refine q_iast hx hb hK hP hD hS 2 0 rfl rfl ee.toNatClampNeg (by omega) (Nat.le_refl _) hje dX0_weigh_24 (fun H locs hP hD hS => ?_)
      have hP : va_P D vwD (wX h r1 f1 s1 cI R (upd F ee.toNatClampNeg a) S cn tl) H := hP
      have hD : va_D A (wX h r1 f1 s1 cI R (upd F ee.toNatClampNeg a) S cn tl) := hD
      refine lv_aload_n hx hb dX0_weigh_25 rfl (lv_at hl 1 rfl) ?_
      refine va_get (D := D) (ci := 0) (v := .ref s1) (C := RX0) (T := TX0) (N := 4) hx hb hts hu hown hK hP 0 rfl rfl 2 (by decide) hF16 (fun _ h9 => h9) rfl dX0_weigh_26 ?_
      refine lv_iload_n hx hb dX0_weigh_29 rfl (lv_at hl 2 rfl) ?_
      refine lv_iload_n hx hb dX0_weigh_30 rfl (lv_at hl 4 rfl) ?_
      refine q_iast hx hb hK hP hD hS 3 0 rfl rfl ee.toNatClampNeg (by omega) (Nat.le_refl _) hje dX0_weigh_31 (fun H locs hP hD hS => ?_)
      have hP : va_P D vwD (wX h r1 f1 s1 cI R (upd F ee.toNatClampNeg a) (upd S ee.toNatClampNeg b) cn tl) H := hP
      have hD : va_D A (wX h r1 f1 s1 cI R (upd F ee.toNatClampNeg a) (upd S ee.toNatClampNeg b) cn tl) := hD
      refine lv_iload hx hb dX0_weigh_32 (lv_at hl 0 rfl) ?_
      exact e_t hx hb hr hlocks (rk_kW_0 hw he) hP hK hD hS dX0_weigh_34 (Nat.le_of_ble_eq_true rfl) (Nat.le_of_ble_eq_true rfl)
    · exact r_x (rm := ({ frames := 6, cells := 1, slots := 6, locals := 100 } : Room)) (As := [.int ee]) (rest := []) (k_ce_bad l D ad cI cJ tl h r1 f1 s1 R F S cn ee hl9 he) SC (cwV 1 hts gX0_weigh_X0_checkEntry rfl rfl rfl (by decide +kernel) ⟨Nat.le_of_ble_eq_true rfl, Nat.le_of_ble_eq_true rfl⟩) hP hK hD hS hA hX 0 rfl rfl rfl hl.1 rfl (Nat.le_of_ble_eq_true rfl) dX0_weigh_7 ⟨Nat.le_of_ble_eq_true rfl, Nat.le_of_ble_eq_true rfl⟩ hex hlocks (rk_kW_2 hw he).symm (Nat.le_of_ble_eq_true rfl) (Nat.le_of_ble_eq_true rfl)
  · exact r_sx (rm := ({ frames := 6, cells := 1, slots := 6, locals := 100 } : Room)) (As := [.int a, .int b]) (rest := []) (k_cw_bad l D ad cI cJ (wX h r1 f1 s1 cI R F S cn tl) a b hl9 hw) SC (va_cwS 2 hts gX0_weigh_X0_checkWeights rfl rfl rfl (by decide +kernel) ⟨Nat.le_of_ble_eq_true rfl, Nat.le_of_ble_eq_true rfl⟩) hP hK hD hS hA hX rfl hl.1 rfl (Nat.le_of_ble_eq_true rfl) dX0_weigh_2 ⟨Nat.le_of_ble_eq_true rfl, Nat.le_of_ble_eq_true rfl⟩ hex hlocks (rk_kW_1 hw).symm (Nat.le_of_ble_eq_true rfl) (Nat.le_of_ble_eq_true rfl)
set_option maxHeartbeats 4000000 in
set_option maxRecDepth 100000 in
theorem m_find (l : Launch) (D : va_G) (ad : Nat → Nat) (cI cJ : ClassId) (tl : va_W) (h r1 f1 s1 : Nat) (R F S : Nat → Int32) (cn : Nat) (q : Int32) (hl9 : l.stackTraces = false) (hR : rk_ok R cn) : uT l yX0_find wsX0_find ({ frames := 8, cells := 1, slots := 6, locals := 160 } : Room) D ad [(cI, .int), (cJ, .long)] [.ref h, .int q] (wX h r1 f1 s1 cI R F S cn tl) (wX h r1 f1 s1 cI R F S cn tl) (rk_kD R F q cn) (R (rk_fd R F q cn)) := by
  unfold uT
  refine st_T (Qc := qT D [(cI, .int), (cJ, .long)] (wX h r1 f1 s1 cI R F S cn tl) (rk_kD R F q cn) (R (rk_fd R F q cn))) (XC := xT D [(cI, .int), (cJ, .long)] (wX h r1 f1 s1 cI R F S cn tl) (rk_kD R F q cn)) (mc := 1) (ms := 6) (cc := cX0_find) (maxL := 4) (ret := (some .int)) [.ref h, .int q] (by decide) rfl (Nat.le_of_ble_eq_true rfl) (fun p en s m below meth c A ls hex hx hb hr hlocks hml hts hown hA hS hP hK hD hX hl => ?_)
  have hown : s.vm.findClass RX0 = some m.cls := hown
  have hl : lv_has ls 4 [(0, .ref h), (1, .int q)] := hl
  have hu : ∀ w ∈ u_ws RX0 TX0 4, w ∈ wsX0_find := by decide +kernel
  have hF9 := hts (.fieldLink RX0 9 "RankRows" "row" "[I") (by decide +kernel)
  have hF13 := hts (.fieldLink RX0 13 "RankRows" "firsts" "[I") (by decide +kernel)
  have hF19 := hts (.fieldLink RX0 19 "RankRows" "count" "I") (by decide +kernel)
  have SC : CallFix p m c cX0_find 4 s ([.ref h, .int q] : List Value).toArray wsX0_find RX0 := ⟨hx, hb, hml, hown, hts⟩
  have hc := hR.1
  refine lv_iload_n hx hb dX0_find_0 rfl (lv_at hl 1 rfl) ?_
  refine lv_if_ge (tgt := 14) hx hb dX0_find_1 (by decide) (fun h1 => ?_) (fun h1 => ?_)
  · refine lv_iconst (v := 0) hx hb dX0_find_14 (by decide) ?_
    refine lv_istore_n (lv' := [(2, .int 0), (0, .ref h), (1, .int q)]) hx hb dX0_find_15 rfl hl (by decide) rfl (fun ls hl => ?_)
    refine lv_iconst (v := 0) hx hb dX0_find_16 (by decide) ?_
    refine lv_istore_n (lv' := [(3, .int 0), (2, .int 0), (0, .ref h), (1, .int q)]) hx hb dX0_find_17 rfl hl (by decide) rfl (fun ls hl => ?_)
    have loop : ∀ (d k : Nat), cn - k < d → k ≤ cn → (∀ j, j < k → ¬ q < rk_sm R F (j + 1)) → ∀ ls : Array Slot, lv_has ls 4 [(3, .int (nI k)), (2, .int (rk_sm R F k)), (0, .ref h), (1, .int q)] → W p l en ({ frames := 8, cells := 1, slots := 6, locals := 160 } : Room) s m ([.ref h, .int q] : List Value).toArray below meth c s.heap [] 0 0 (vx_MQ below (qT D [(cI, .int), (cJ, .long)] (wX h r1 f1 s1 cI R F S cn tl) (rk_kD R F q cn) (R (rk_fd R F q cn)) A) (xT D [(cI, .int), (cJ, .long)] (wX h r1 f1 s1 cI R F S cn tl) (rk_kD R F q cn) A) ([.ref h, .int q] : List Value).toArray s 1 6 A) (F0 m 18 ls []) := by
      intro d
      induction d with
      | zero => intro k hd; exact absurd hd (Nat.not_lt_zero _)
      | succ d ih =>
        intro k hd hk hno ls hl
        refine lv_iload_n hx hb dX0_find_18 rfl (lv_at hl 0 rfl) ?_
        refine lv_aload_n hx hb dX0_find_19 rfl (lv_at hl 2 rfl) ?_
        refine va_get (D := D) (ci := 0) (v := .int (nI cn)) (C := RX0) (T := TX0) (N := 4) hx hb hts hu hown hK hP 0 rfl rfl 3 (by decide) hF19 (fun _ h9 => h9) rfl dX0_find_20 ?_
        refine lv_icmp_ge (tgt := 58) hx hb dX0_find_23 (by decide) (fun h2 => ?_) (fun h2 => ?_)
        · have hkc : cn ≤ k := (nI_leI (by omega) (by omega)).mp h2
          have hfd : rk_fd R F q cn = k := rk_fd_eq hk hno (fun z => absurd z (by omega))
          exact nx_throw hx hb hl9 hown (hts (.classLink RX0 55 "java/util/NoSuchElementException") (by decide +kernel)) (hts (.initialized "java/util/NoSuchElementException") (by decide +kernel)) (hX.2.2.2.2 _ (List.mem_of_getElem? (i := 2) rfl)) (vx_hat (L := nx_at) (B := [.castable "java/util/NoSuchElementException" "java/util/NoSuchElementException", .declares ⟨"java/lang/RuntimeException", "<init>", "(Ljava/lang/String;)V"⟩, .declares ⟨"java/lang/Exception", "<init>", "(Ljava/lang/String;)V"⟩, .declares ⟨"java/lang/Throwable", "<init>", "(Ljava/lang/String;)V"⟩]) (fun w hw => hts w ((by decide +kernel : ∀ w ∈ (nx_at).filter goodWord, w ∈ wsX0_find) w hw)) (by decide +kernel) (vx_c (va_Nw.use rfl (hX.2.1 _ (List.mem_of_getElem? (i := 1) rfl))) (vx_c (va_Nw.use rfl (hX.2.2.1 _ (List.mem_of_getElem? (i := 0) rfl))) (vx_c (va_Nw.use rfl (hX.2.2.1 _ (List.mem_of_getElem? (i := 1) rfl))) (vx_c (va_Nw.use rfl (hX.2.2.1 _ (List.mem_of_getElem? (i := 2) rfl))) (vx_n)))))) (by decide +kernel) hX.1.1 hX.1.2 hS (hl.1.trans hml.symm) dX0_find_58 dX0_find_61 dX0_find_62 dX0_find_64 dX0_find_67 (fun x h => (hex x h).elim) (Nat.le_of_ble_eq_true rfl) (Nat.le_of_ble_eq_true rfl) (Nat.le_of_ble_eq_true rfl) (Nat.le_of_ble_eq_true rfl) hlocks (r_t (rk_kD_2 (fun z => by have := z.2; omega)) (by decide) (by decide +kernel) hP hK hD hS) hS.2.2 (Nat.le_of_ble_eq_true rfl) (Nat.le_of_ble_eq_true rfl)
        · have hkc : k < cn := Nat.lt_of_not_le (fun z => h2 ((nI_leI (by omega) (by omega)).mpr z))
          obtain ⟨j, hj, hRk⟩ := hR.2.1 k hkc
          refine lv_iload_n hx hb dX0_find_26 rfl (lv_at hl 1 rfl) ?_
          refine lv_aload_n hx hb dX0_find_27 rfl (lv_at hl 2 rfl) ?_
          refine va_get (D := D) (ci := 0) (v := .ref f1) (C := RX0) (T := TX0) (N := 4) hx hb hts hu hown hK hP 0 rfl rfl 1 (by decide) hF13 (fun _ h9 => h9) rfl dX0_find_28 ?_
          refine lv_aload_n hx hb dX0_find_31 rfl (lv_at hl 2 rfl) ?_
          refine va_get (D := D) (ci := 0) (v := .ref r1) (C := RX0) (T := TX0) (N := 4) hx hb hts hu hown hK hP 0 rfl rfl 0 (by decide) hF9 (fun _ h9 => h9) rfl dX0_find_32 ?_
          refine lv_iload_n hx hb dX0_find_35 rfl (lv_at hl 0 rfl) ?_
          refine q_iald hx hb hK hP 1 0 rfl rfl k (by omega) (Nat.le_refl _) rfl dX0_find_36 ?_
          refine q_iald hx hb hK hP 2 0 rfl rfl j (by omega) (Nat.le_refl _) hRk dX0_find_37 ?_
          refine lv_iadd hx hb dX0_find_38 ?_
          refine q_top (rk_sm R F (k + 1)) (by show _ = rk_sm R F k + F (R k).toNatClampNeg; rw [hRk, rk_cl j (by omega)]) ?_
          refine lv_istore_n (lv' := [(2, .int (rk_sm R F (k + 1))), (3, .int (nI k)), (0, .ref h), (1, .int q)]) hx hb dX0_find_39 rfl hl (by decide) rfl (fun ls hl => ?_)
          refine lv_iload_n hx hb dX0_find_40 rfl (lv_at hl 0 rfl) ?_
          refine lv_iload_n hx hb dX0_find_41 rfl (lv_at hl 3 rfl) ?_
          refine lv_icmp_le (tgt := 52) hx hb dX0_find_42 (by decide) (fun h3 => ?_) (fun h3 => ?_)
          · refine lv_iinc (k := 1) (v := nI (k + 1)) (lv' := [(3, .int (nI (k + 1))), (2, .int (rk_sm R F (k + 1))), (0, .ref h), (1, .int q)]) hx hb dX0_find_52 hl rfl (by rw [(by decide : Int32.ofInt 1 = 1)]; exact nI_1 _) (by decide) rfl (fun ls hl => ?_)
            refine lv_goto (tgt := 18) hx hb dX0_find_55 (by decide) ?_
            exact ih (k + 1) (by omega) (by omega) (fun j hj => (Nat.lt_succ_iff_lt_or_eq.mp hj).elim (fun q => hno j q) (fun q => by rw [q]; exact Int32.not_lt.mpr h3)) ls hl
          · have hfd : rk_fd R F q cn = k := rk_fd_eq hk hno (fun _ => Int32.not_le.mp h3)
            refine lv_aload_n hx hb dX0_find_45 rfl (lv_at hl 2 rfl) ?_
            refine va_get (D := D) (ci := 0) (v := .ref r1) (C := RX0) (T := TX0) (N := 4) hx hb hts hu hown hK hP 0 rfl rfl 0 (by decide) hF9 (fun _ h9 => h9) rfl dX0_find_46 ?_
            refine lv_iload_n hx hb dX0_find_49 rfl (lv_at hl 1 rfl) ?_
            refine q_iald hx hb hK hP 1 0 rfl rfl k (by omega) (Nat.le_refl _) rfl dX0_find_50 ?_
            refine q_top (R (rk_fd R F q cn)) (by rw [hfd]) ?_
            exact e_t hx hb hr hlocks (rk_kD_0 ⟨rk_nn h1, by omega⟩) hP hK hD hS dX0_find_51 (Nat.le_of_ble_eq_true rfl) (Nat.le_of_ble_eq_true rfl)
    have hl : lv_has ls 4 [(3, .int (nI 0)), (2, .int (rk_sm R F 0)), (0, .ref h), (1, .int q)] := hl
    exact loop (cn + 1) 0 (by omega) (Nat.zero_le _) (fun j q => absurd q (Nat.not_lt_zero j)) ls hl
  · exact nx_throw hx hb hl9 hown (hts (.classLink RX0 55 "java/util/NoSuchElementException") (by decide +kernel)) (hts (.initialized "java/util/NoSuchElementException") (by decide +kernel)) (hX.2.2.2.2 _ (List.mem_of_getElem? (i := 1) rfl)) (vx_hat (L := nx_at) (B := [.castable "java/util/NoSuchElementException" "java/util/NoSuchElementException", .declares ⟨"java/lang/RuntimeException", "<init>", "(Ljava/lang/String;)V"⟩, .declares ⟨"java/lang/Exception", "<init>", "(Ljava/lang/String;)V"⟩, .declares ⟨"java/lang/Throwable", "<init>", "(Ljava/lang/String;)V"⟩]) (fun w hw => hts w ((by decide +kernel : ∀ w ∈ (nx_at).filter goodWord, w ∈ wsX0_find) w hw)) (by decide +kernel) (vx_c (va_Nw.use rfl (hX.2.1 _ (List.mem_of_getElem? (i := 1) rfl))) (vx_c (va_Nw.use rfl (hX.2.2.1 _ (List.mem_of_getElem? (i := 0) rfl))) (vx_c (va_Nw.use rfl (hX.2.2.1 _ (List.mem_of_getElem? (i := 1) rfl))) (vx_c (va_Nw.use rfl (hX.2.2.1 _ (List.mem_of_getElem? (i := 2) rfl))) (vx_n)))))) (by decide +kernel) hX.1.1 hX.1.2 hS (hl.1.trans hml.symm) dX0_find_4 dX0_find_7 dX0_find_8 dX0_find_10 dX0_find_13 (fun x h => (hex x h).elim) (Nat.le_of_ble_eq_true rfl) (Nat.le_of_ble_eq_true rfl) (Nat.le_of_ble_eq_true rfl) (Nat.le_of_ble_eq_true rfl) hlocks (r_t (rk_kD_2 (fun z => h1 (rk_le z.1))) (by decide) (by decide +kernel) hP hK hD hS) hS.2.2 (Nat.le_of_ble_eq_true rfl) (Nat.le_of_ble_eq_true rfl)
set_option maxHeartbeats 4000000 in
set_option maxRecDepth 100000 in
theorem m_sum (l : Launch) (D : va_G) (ad : Nat → Nat) (cI cJ : ClassId) (tl : va_W) (h r1 f1 s1 : Nat) (R F S : Nat → Int32) (cn : Nat) (ee z : Int32) (hl9 : l.stackTraces = false) (hR : rk_ok R cn) : uT l yX0_sum wsX0_sum ({ frames := 8, cells := 1, slots := 6, locals := 160 } : Room) D ad [(cI, .int), (cJ, .long)] [.ref h, .int ee, .int z] (wX h r1 f1 s1 cI R F S cn tl) (wX h r1 f1 s1 cI R F S cn tl) (rk_kS ee z cn) (rk_sm R (if z = 0 then F else S) (if ee = -1 then cn else rk_pl R ee cn)) := by
  unfold uT
  refine st_T (Qc := qT D [(cI, .int), (cJ, .long)] (wX h r1 f1 s1 cI R F S cn tl) (rk_kS ee z cn) (rk_sm R (if z = 0 then F else S) (if ee = -1 then cn else rk_pl R ee cn))) (XC := xT D [(cI, .int), (cJ, .long)] (wX h r1 f1 s1 cI R F S cn tl) (rk_kS ee z cn)) (mc := 1) (ms := 6) (cc := cX0_sum) (maxL := 4) (ret := (some .int)) [.ref h, .int ee, .int z] (by decide) rfl (Nat.le_of_ble_eq_true rfl) (fun p en s m below meth c A ls hex hx hb hr hlocks hml hts hown hA hS hP hK hD hX hl => ?_)
  have hown : s.vm.findClass RX0 = some m.cls := hown
  have hl : lv_has ls 4 [(0, .ref h), (1, .int ee), (2, .int z)] := hl
  have hu : ∀ w ∈ u_ws RX0 TX0 4, w ∈ wsX0_sum := by decide +kernel
  have hF13 := hts (.fieldLink RX0 13 "RankRows" "firsts" "[I") (by decide +kernel)
  have hF16 := hts (.fieldLink RX0 16 "RankRows" "seconds" "[I") (by decide +kernel)
  have hF19 := hts (.fieldLink RX0 19 "RankRows" "count" "I") (by decide +kernel)
  have SC : CallFix p m c cX0_sum 4 s ([.ref h, .int ee, .int z] : List Value).toArray wsX0_sum RX0 := ⟨hx, hb, hml, hown, hts⟩
  have hc := hR.1
  have hend : ∀ q : Nat, q ≤ cn → (if ee = -1 then cn else rk_pl R ee cn) = q → rk_kS ee z cn = 0 → ∀ (H : Heap) (locs : List Loc), va_P D vwD (wX h r1 f1 s1 cI R F S cn tl) H → va_D A (wX h r1 f1 s1 cI R F S cn tl) → va_S A s.heap H locs → ∀ ls : Array Slot, lv_has ls 4 [(0, .ref h), (1, .int ee), (2, .int z)] → W p l en ({ frames := 8, cells := 1, slots := 6, locals := 160 } : Room) s m ([.ref h, .int ee, .int z] : List Value).toArray below meth c H locs 0 0 (vx_MQ below (qT D [(cI, .int), (cJ, .long)] (wX h r1 f1 s1 cI R F S cn tl) (rk_kS ee z cn) (rk_sm R (if z = 0 then F else S) (if ee = -1 then cn else rk_pl R ee cn)) A) (xT D [(cI, .int), (cJ, .long)] (wX h r1 f1 s1 cI R F S cn tl) (rk_kS ee z cn) A) ([.ref h, .int ee, .int z] : List Value).toArray s 1 6 A) (F0 m 41 ls [.int (nI q)]) := by
    intro q hq hqe hk0 H locs hP hD hS ls hl
    refine lv_istore_n (lv' := [(3, .int (nI q)), (0, .ref h), (1, .int ee), (2, .int z)]) hx hb dX0_sum_41 rfl hl (by decide) rfl (fun ls hl => ?_)
    refine lv_aload_n hx hb dX0_sum_42 rfl (lv_at hl 1 rfl) ?_
    refine lv_iload_n hx hb dX0_sum_43 rfl (lv_at hl 0 rfl) ?_
    refine lv_iload_n hx hb dX0_sum_44 rfl (lv_at hl 3 rfl) ?_
    refine lv_if_ne (tgt := 55) hx hb dX0_sum_45 (by decide) (fun h1 => ?_) (fun h1 => ?_)
    · refine lv_aload_n hx hb dX0_sum_55 rfl (lv_at hl 1 rfl) ?_
      refine va_get (D := D) (ci := 0) (v := .ref s1) (C := RX0) (T := TX0) (N := 4) hx hb hts hu hown hK hP 0 rfl rfl 2 (by decide) hF16 (fun _ h9 => h9) rfl dX0_sum_56 ?_
      refine r_i (rm := ({ frames := 0, cells := 0, slots := 0, locals := 0 } : Room)) (As := [.int (nI q), .ref s1]) (rest := []) (k_ss l D ad cI cJ tl h r1 f1 s1 R F S cn q hR hq) SC (cwV 2 hts gX0_sum_X0_sumInFrontOf rfl rfl rfl (by decide +kernel) ⟨Nat.le_of_ble_eq_true rfl, Nat.le_of_ble_eq_true rfl⟩) hP hK hD hS hA hX 0 rfl rfl rfl hl.1 rfl (Nat.le_of_ble_eq_true rfl) dX0_sum_59 ⟨Nat.le_of_ble_eq_true rfl, Nat.le_of_ble_eq_true rfl⟩ (fun H locs hP hD hS => ?_)
      have hP : va_P D vwD (wX h r1 f1 s1 cI R F S cn tl) H := hP
      have hD : va_D A (wX h r1 f1 s1 cI R F S cn tl) := hD
      refine q_top (rk_sm R (if z = 0 then F else S) (if ee = -1 then cn else rk_pl R ee cn)) (by rw [if_neg h1, hqe]) ?_
      exact e_t hx hb hr hlocks (hk0) hP hK hD hS dX0_sum_62 (Nat.le_of_ble_eq_true rfl) (Nat.le_of_ble_eq_true rfl)
    · refine lv_aload_n hx hb dX0_sum_48 rfl (lv_at hl 1 rfl) ?_
      refine va_get (D := D) (ci := 0) (v := .ref f1) (C := RX0) (T := TX0) (N := 4) hx hb hts hu hown hK hP 0 rfl rfl 1 (by decide) hF13 (fun _ h9 => h9) rfl dX0_sum_49 ?_
      refine lv_goto (tgt := 59) hx hb dX0_sum_52 (by decide) ?_
      refine r_i (rm := ({ frames := 0, cells := 0, slots := 0, locals := 0 } : Room)) (As := [.int (nI q), .ref f1]) (rest := []) (k_sf l D ad cI cJ tl h r1 f1 s1 R F S cn q hR hq) SC (cwV 2 hts gX0_sum_X0_sumInFrontOf rfl rfl rfl (by decide +kernel) ⟨Nat.le_of_ble_eq_true rfl, Nat.le_of_ble_eq_true rfl⟩) hP hK hD hS hA hX 0 rfl rfl rfl hl.1 rfl (Nat.le_of_ble_eq_true rfl) dX0_sum_59 ⟨Nat.le_of_ble_eq_true rfl, Nat.le_of_ble_eq_true rfl⟩ (fun H locs hP hD hS => ?_)
      have hP : va_P D vwD (wX h r1 f1 s1 cI R F S cn tl) H := hP
      have hD : va_D A (wX h r1 f1 s1 cI R F S cn tl) := hD
      refine q_top (rk_sm R (if z = 0 then F else S) (if ee = -1 then cn else rk_pl R ee cn)) (by rw [if_pos h1, hqe]) ?_
      exact e_t hx hb hr hlocks (hk0) hP hK hD hS dX0_sum_62 (Nat.le_of_ble_eq_true rfl) (Nat.le_of_ble_eq_true rfl)
  have hgo : (z = 0 ∨ z = 1) → ∀ ls : Array Slot, lv_has ls 4 [(0, .ref h), (1, .int ee), (2, .int z)] → W p l en ({ frames := 8, cells := 1, slots := 6, locals := 160 } : Room) s m ([.ref h, .int ee, .int z] : List Value).toArray below meth c s.heap [] 0 0 (vx_MQ below (qT D [(cI, .int), (cJ, .long)] (wX h r1 f1 s1 cI R F S cn tl) (rk_kS ee z cn) (rk_sm R (if z = 0 then F else S) (if ee = -1 then cn else rk_pl R ee cn)) A) (xT D [(cI, .int), (cJ, .long)] (wX h r1 f1 s1 cI R F S cn tl) (rk_kS ee z cn) A) ([.ref h, .int ee, .int z] : List Value).toArray s 1 6 A) (F0 m 19 ls []) := by
    intro hz ls hl
    refine lv_aload_n hx hb dX0_sum_19 rfl (lv_at hl 0 rfl) ?_
    refine lv_iload_n hx hb dX0_sum_20 rfl (lv_at hl 1 rfl) ?_
    by_cases he : ee = -1 ∨ rk_E ee cn
    · refine r_v (rm := ({ frames := 1, cells := 0, slots := 0, locals := 40 } : Room)) (As := [.int ee]) (rest := []) (k_co_ok l D ad cI cJ tl h r1 f1 s1 R F S cn ee he) SC (cwV 1 hts gX0_sum_X0_checkEntryOrNone rfl rfl rfl (by decide +kernel) ⟨Nat.le_of_ble_eq_true rfl, Nat.le_of_ble_eq_true rfl⟩) hP hK hD hS hA hX 0 rfl rfl rfl hl.1 rfl (Nat.le_of_ble_eq_true rfl) dX0_sum_21 ⟨Nat.le_of_ble_eq_true rfl, Nat.le_of_ble_eq_true rfl⟩ (fun H locs hP hD hS => ?_)
      have hP : va_P D vwD (wX h r1 f1 s1 cI R F S cn tl) H := hP
      have hD : va_D A (wX h r1 f1 s1 cI R F S cn tl) := hD
      refine lv_iload_n hx hb dX0_sum_24 rfl (lv_at hl 1 rfl) ?_
      refine lv_iconst (v := (-1)) hx hb dX0_sum_25 (by decide) ?_
      refine lv_icmp_ne (tgt := 36) hx hb dX0_sum_26 (by decide) (fun h2 => ?_) (fun h2 => ?_)
      · refine lv_aload_n hx hb dX0_sum_36 rfl (lv_at hl 0 rfl) ?_
        refine lv_iload_n hx hb dX0_sum_37 rfl (lv_at hl 1 rfl) ?_
        refine r_i (rm := ({ frames := 0, cells := 0, slots := 0, locals := 0 } : Room)) (As := [.int ee]) (rest := []) (k_po l D ad cI cJ tl h r1 f1 s1 R F S cn ee hc) SC (cwV 1 hts gX0_sum_X0_placeOf rfl rfl rfl (by decide +kernel) ⟨Nat.le_of_ble_eq_true rfl, Nat.le_of_ble_eq_true rfl⟩) hP hK hD hS hA hX 0 rfl rfl rfl hl.1 rfl (Nat.le_of_ble_eq_true rfl) dX0_sum_38 ⟨Nat.le_of_ble_eq_true rfl, Nat.le_of_ble_eq_true rfl⟩ (fun H locs hP hD hS => ?_)
        have hP : va_P D vwD (wX h r1 f1 s1 cI R F S cn tl) H := hP
        have hD : va_D A (wX h r1 f1 s1 cI R F S cn tl) := hD
        exact hend (rk_pl R ee cn) (rk_pl_le R ee cn) (if_neg h2) (rk_kS_0 hz he) H locs hP hD hS ls hl
      · refine lv_aload_n hx hb dX0_sum_29 rfl (lv_at hl 0 rfl) ?_
        refine va_get (D := D) (ci := 0) (v := .int (nI cn)) (C := RX0) (T := TX0) (N := 4) hx hb hts hu hown hK hP 0 rfl rfl 3 (by decide) hF19 (fun _ h9 => h9) rfl dX0_sum_30 ?_
        refine lv_goto (tgt := 41) hx hb dX0_sum_33 (by decide) ?_
        exact hend cn (Nat.le_refl _) (if_pos h2) (rk_kS_0 hz he) H locs hP hD hS ls hl
    · exact r_x (rm := ({ frames := 7, cells := 1, slots := 6, locals := 130 } : Room)) (As := [.int ee]) (rest := []) (k_co_bad l D ad cI cJ tl h r1 f1 s1 R F S cn ee hl9 he) SC (cwV 1 hts gX0_sum_X0_checkEntryOrNone rfl rfl rfl (by decide +kernel) ⟨Nat.le_of_ble_eq_true rfl, Nat.le_of_ble_eq_true rfl⟩) hP hK hD hS hA hX 0 rfl rfl rfl hl.1 rfl (Nat.le_of_ble_eq_true rfl) dX0_sum_21 ⟨Nat.le_of_ble_eq_true rfl, Nat.le_of_ble_eq_true rfl⟩ hex hlocks (rk_kS_2 hz he).symm (Nat.le_of_ble_eq_true rfl) (Nat.le_of_ble_eq_true rfl)
  refine lv_iload_n hx hb dX0_sum_0 rfl (lv_at hl 2 rfl) ?_
  refine lv_if_eq (tgt := 19) hx hb dX0_sum_1 (by decide) (fun h1 => ?_) (fun h1 => ?_)
  · exact hgo (Or.inl h1) ls hl
  · refine lv_iload_n hx hb dX0_sum_4 rfl (lv_at hl 2 rfl) ?_
    refine lv_iconst (v := 1) hx hb dX0_sum_5 (by decide) ?_
    refine lv_icmp_eq (tgt := 19) hx hb dX0_sum_6 (by decide) (fun h2 => ?_) (fun h2 => ?_)
    · exact hgo (Or.inr h2) ls hl
    · exact vx_throwS (own := RX0) (cls := "java/lang/IllegalArgumentException") (names := ["java/lang/RuntimeException", "java/lang/Exception"]) hx hb hl9 hown (by decide +kernel) (by decide +kernel) (hts (.classLink RX0 23 "java/lang/IllegalArgumentException") (by decide +kernel)) (hts (.initialized "java/lang/IllegalArgumentException") (by decide +kernel)) (hX.2.2.2.2 _ (List.mem_of_getElem? (i := 3) rfl)) (vx_hat (L := vx_atS RX0 27 "java/lang/IllegalArgumentException" ["java/lang/RuntimeException", "java/lang/Exception"]) (B := [.castable "java/lang/IllegalArgumentException" "java/lang/IllegalArgumentException", .declares ⟨"java/lang/RuntimeException", "<init>", "(Ljava/lang/String;)V"⟩, .declares ⟨"java/lang/Exception", "<init>", "(Ljava/lang/String;)V"⟩, .declares ⟨"java/lang/Throwable", "<init>", "(Ljava/lang/String;)V"⟩]) (fun w hw => hts w ((by decide +kernel : ∀ w ∈ (vx_atS RX0 27 "java/lang/IllegalArgumentException" ["java/lang/RuntimeException", "java/lang/Exception"]).filter goodWord, w ∈ wsX0_sum) w hw)) (by decide +kernel) (vx_c (va_Nw.use rfl (hX.2.1 _ (List.mem_of_getElem? (i := 0) rfl))) (vx_c (va_Nw.use rfl (hX.2.2.1 _ (List.mem_of_getElem? (i := 0) rfl))) (vx_c (va_Nw.use rfl (hX.2.2.1 _ (List.mem_of_getElem? (i := 1) rfl))) (vx_c (va_Nw.use rfl (hX.2.2.1 _ (List.mem_of_getElem? (i := 2) rfl))) (vx_n)))))) (by decide +kernel) hX.1.1 hX.1.2 hS (hl.1.trans hml.symm) dX0_sum_9 dX0_sum_12 dX0_sum_13 dX0_sum_15 dX0_sum_18 (fun x h => (hex x h).elim) (Nat.le_of_ble_eq_true rfl) (Nat.le_of_ble_eq_true rfl) (Nat.le_of_ble_eq_true rfl) (Nat.le_of_ble_eq_true rfl) hlocks (r_t (rk_kS_1 (fun q => q.elim h1 h2)) (by decide) (by decide +kernel) hP hK hD hS) hS.2.2 (Nat.le_of_ble_eq_true rfl) (Nat.le_of_ble_eq_true rfl)
set_option maxHeartbeats 4000000 in
set_option maxRecDepth 100000 in
theorem m_next (l : Launch) (D : va_G) (ad : Nat → Nat) (cI cJ : ClassId) (tl : va_W) (h r1 f1 s1 : Nat) (R F S : Nat → Int32) (cn : Nat) (ee : Int32) (hl9 : l.stackTraces = false) (hR : rk_ok R cn) : uT l yX0_next wsX0_next ({ frames := 8, cells := 1, slots := 6, locals := 160 } : Room) D ad [(cI, .int), (cJ, .long)] [.ref h, .int ee] (wX h r1 f1 s1 cI R F S cn tl) (wX h r1 f1 s1 cI R F S cn tl) (rk_kN R ee cn) (R (rk_pb R ee cn)) := by
  unfold uT
  refine st_T (Qc := qT D [(cI, .int), (cJ, .long)] (wX h r1 f1 s1 cI R F S cn tl) (rk_kN R ee cn) (R (rk_pb R ee cn))) (XC := xT D [(cI, .int), (cJ, .long)] (wX h r1 f1 s1 cI R F S cn tl) (rk_kN R ee cn)) (mc := 1) (ms := 6) (cc := cX0_next) (maxL := 3) (ret := (some .int)) [.ref h, .int ee] (by decide) rfl (Nat.le_of_ble_eq_true rfl) (fun p en s m below meth c A ls hex hx hb hr hlocks hml hts hown hA hS hP hK hD hX hl => ?_)
  have hown : s.vm.findClass RX0 = some m.cls := hown
  have hl : lv_has ls 3 [(0, .ref h), (1, .int ee)] := hl
  have hu : ∀ w ∈ u_ws RX0 TX0 4, w ∈ wsX0_next := by decide +kernel
  have hF9 := hts (.fieldLink RX0 9 "RankRows" "row" "[I") (by decide +kernel)
  have hF19 := hts (.fieldLink RX0 19 "RankRows" "count" "I") (by decide +kernel)
  have SC : CallFix p m c cX0_next 3 s ([.ref h, .int ee] : List Value).toArray wsX0_next RX0 := ⟨hx, hb, hml, hown, hts⟩
  have hc := hR.1
  refine lv_aload_n hx hb dX0_next_0 rfl (lv_at hl 0 rfl) ?_
  refine lv_iload_n hx hb dX0_next_1 rfl (lv_at hl 1 rfl) ?_
  by_cases he : ee = -1 ∨ rk_E ee cn
  · have hpb := rk_pb_le hR he
    refine r_v (rm := ({ frames := 1, cells := 0, slots := 0, locals := 40 } : Room)) (As := [.int ee]) (rest := []) (k_co_ok l D ad cI cJ tl h r1 f1 s1 R F S cn ee he) SC (cwV 1 hts gX0_next_X0_checkEntryOrNone rfl rfl rfl (by decide +kernel) ⟨Nat.le_of_ble_eq_true rfl, Nat.le_of_ble_eq_true rfl⟩) hP hK hD hS hA hX 0 rfl rfl rfl hl.1 rfl (Nat.le_of_ble_eq_true rfl) dX0_next_2 ⟨Nat.le_of_ble_eq_true rfl, Nat.le_of_ble_eq_true rfl⟩ (fun H locs hP hD hS => ?_)
    have hP : va_P D vwD (wX h r1 f1 s1 cI R F S cn tl) H := hP
    have hD : va_D A (wX h r1 f1 s1 cI R F S cn tl) := hD
    refine lv_aload_n hx hb dX0_next_5 rfl (lv_at hl 0 rfl) ?_
    refine lv_iload_n hx hb dX0_next_6 rfl (lv_at hl 1 rfl) ?_
    refine r_i (rm := ({ frames := 1, cells := 0, slots := 0, locals := 40 } : Room)) (As := [.int ee]) (rest := []) (k_pb l D ad cI cJ tl h r1 f1 s1 R F S cn ee hc) SC (cwV 1 hts gX0_next_X0_placeBehind rfl rfl rfl (by decide +kernel) ⟨Nat.le_of_ble_eq_true rfl, Nat.le_of_ble_eq_true rfl⟩) hP hK hD hS hA hX 0 rfl rfl rfl hl.1 rfl (Nat.le_of_ble_eq_true rfl) dX0_next_7 ⟨Nat.le_of_ble_eq_true rfl, Nat.le_of_ble_eq_true rfl⟩ (fun H locs hP hD hS => ?_)
    have hP : va_P D vwD (wX h r1 f1 s1 cI R F S cn tl) H := hP
    have hD : va_D A (wX h r1 f1 s1 cI R F S cn tl) := hD
    refine lv_istore_n (lv' := [(2, .int (nI (rk_pb R ee cn))), (0, .ref h), (1, .int ee)]) hx hb dX0_next_10 rfl hl (by decide) rfl (fun ls hl => ?_)
    refine lv_iload_n hx hb dX0_next_11 rfl (lv_at hl 0 rfl) ?_
    refine lv_aload_n hx hb dX0_next_12 rfl (lv_at hl 1 rfl) ?_
    refine va_get (D := D) (ci := 0) (v := .int (nI cn)) (C := RX0) (T := TX0) (N := 4) hx hb hts hu hown hK hP 0 rfl rfl 3 (by decide) hF19 (fun _ h9 => h9) rfl dX0_next_13 ?_
    refine lv_icmp_lt (tgt := 29) hx hb dX0_next_16 (by decide) (fun h1 => ?_) (fun h1 => ?_)
    · have hlt : rk_pb R ee cn < cn := (nI_ltI (by omega) (by omega)).mp h1
      refine lv_aload_n hx hb dX0_next_29 rfl (lv_at hl 1 rfl) ?_
      refine va_get (D := D) (ci := 0) (v := .ref r1) (C := RX0) (T := TX0) (N := 4) hx hb hts hu hown hK hP 0 rfl rfl 0 (by decide) hF9 (fun _ h9 => h9) rfl dX0_next_30 ?_
      refine lv_iload_n hx hb dX0_next_33 rfl (lv_at hl 0 rfl) ?_
      refine q_iald hx hb hK hP 1 0 rfl rfl (rk_pb R ee cn) (by omega) (Nat.le_refl _) rfl dX0_next_34 ?_
      exact e_t hx hb hr hlocks (rk_kN_0 ⟨he, hlt⟩) hP hK hD hS dX0_next_35 (Nat.le_of_ble_eq_true rfl) (Nat.le_of_ble_eq_true rfl)
    · exact nx_throw hx hb hl9 hown (hts (.classLink RX0 55 "java/util/NoSuchElementException") (by decide +kernel)) (hts (.initialized "java/util/NoSuchElementException") (by decide +kernel)) (hX.2.2.2.2 _ (List.mem_of_getElem? (i := 4) rfl)) (vx_hat (L := nx_at) (B := [.castable "java/util/NoSuchElementException" "java/util/NoSuchElementException", .declares ⟨"java/lang/RuntimeException", "<init>", "(Ljava/lang/String;)V"⟩, .declares ⟨"java/lang/Exception", "<init>", "(Ljava/lang/String;)V"⟩, .declares ⟨"java/lang/Throwable", "<init>", "(Ljava/lang/String;)V"⟩]) (fun w hw => hts w ((by decide +kernel : ∀ w ∈ (nx_at).filter goodWord, w ∈ wsX0_next) w hw)) (by decide +kernel) (vx_c (va_Nw.use rfl (hX.2.1 _ (List.mem_of_getElem? (i := 1) rfl))) (vx_c (va_Nw.use rfl (hX.2.2.1 _ (List.mem_of_getElem? (i := 0) rfl))) (vx_c (va_Nw.use rfl (hX.2.2.1 _ (List.mem_of_getElem? (i := 1) rfl))) (vx_c (va_Nw.use rfl (hX.2.2.1 _ (List.mem_of_getElem? (i := 2) rfl))) (vx_n)))))) (by decide +kernel) hX.1.1 hX.1.2 hS (hl.1.trans hml.symm) dX0_next_19 dX0_next_22 dX0_next_23 dX0_next_25 dX0_next_28 (fun x h => (hex x h).elim) (Nat.le_of_ble_eq_true rfl) (Nat.le_of_ble_eq_true rfl) (Nat.le_of_ble_eq_true rfl) (Nat.le_of_ble_eq_true rfl) hlocks (r_t (rk_kN_2 (fun z => h1 ((nI_ltI (by omega) (by omega)).mpr z.2))) (by decide) (by decide +kernel) hP hK hD hS) hS.2.2 (Nat.le_of_ble_eq_true rfl) (Nat.le_of_ble_eq_true rfl)
  · exact r_x (rm := ({ frames := 7, cells := 1, slots := 6, locals := 130 } : Room)) (As := [.int ee]) (rest := []) (k_co_bad l D ad cI cJ tl h r1 f1 s1 R F S cn ee hl9 he) SC (cwV 1 hts gX0_next_X0_checkEntryOrNone rfl rfl rfl (by decide +kernel) ⟨Nat.le_of_ble_eq_true rfl, Nat.le_of_ble_eq_true rfl⟩) hP hK hD hS hA hX 0 rfl rfl rfl hl.1 rfl (Nat.le_of_ble_eq_true rfl) dX0_next_2 ⟨Nat.le_of_ble_eq_true rfl, Nat.le_of_ble_eq_true rfl⟩ hex hlocks (rk_kN_2 (fun z => he z.1)).symm (Nat.le_of_ble_eq_true rfl) (Nat.le_of_ble_eq_true rfl)
set_option maxHeartbeats 4000000 in
set_option maxRecDepth 100000 in
theorem m_place (l : Launch) (D : va_G) (ad : Nat → Nat) (cI cJ : ClassId) (tl : va_W) (h r1 f1 s1 : Nat) (R F S : Nat → Int32) (cn : Nat) (ee : Int32) (hl9 : l.stackTraces = false) (hR : rk_ok R cn) : uT l yX0_place wsX0_place ({ frames := 8, cells := 1, slots := 6, locals := 160 } : Room) D ad [(cI, .int), (cJ, .long)] [.ref h, .int ee] (wX h r1 f1 s1 cI R F S cn tl) (wX h r1 f1 s1 cI R F S cn tl) (rk_kP ee cn) (nI (rk_pl R ee cn)) := by
  unfold uT
  refine st_T (Qc := qT D [(cI, .int), (cJ, .long)] (wX h r1 f1 s1 cI R F S cn tl) (rk_kP ee cn) (nI (rk_pl R ee cn))) (XC := xT D [(cI, .int), (cJ, .long)] (wX h r1 f1 s1 cI R F S cn tl) (rk_kP ee cn)) (mc := 1) (ms := 6) (cc := cX0_place) (maxL := 2) (ret := (some .int)) [.ref h, .int ee] (by decide) rfl (Nat.le_of_ble_eq_true rfl) (fun p en s m below meth c A ls hex hx hb hr hlocks hml hts hown hA hS hP hK hD hX hl => ?_)
  have hown : s.vm.findClass RX0 = some m.cls := hown
  have hl : lv_has ls 2 [(0, .ref h), (1, .int ee)] := hl
  have SC : CallFix p m c cX0_place 2 s ([.ref h, .int ee] : List Value).toArray wsX0_place RX0 := ⟨hx, hb, hml, hown, hts⟩
  have hc := hR.1
  refine lv_aload_n hx hb dX0_place_0 rfl (lv_at hl 0 rfl) ?_
  refine lv_iload_n hx hb dX0_place_1 rfl (lv_at hl 1 rfl) ?_
  by_cases he : rk_E ee cn
  · refine r_v (rm := ({ frames := 0, cells := 0, slots := 0, locals := 0 } : Room)) (As := [.int ee]) (rest := []) (k_ce_ok l D ad cI cJ tl h r1 f1 s1 R F S cn ee he) SC (cwV 1 hts gX0_place_X0_checkEntry rfl rfl rfl (by decide +kernel) ⟨Nat.le_of_ble_eq_true rfl, Nat.le_of_ble_eq_true rfl⟩) hP hK hD hS hA hX 0 rfl rfl rfl hl.1 rfl (Nat.le_of_ble_eq_true rfl) dX0_place_2 ⟨Nat.le_of_ble_eq_true rfl, Nat.le_of_ble_eq_true rfl⟩ (fun H locs hP hD hS => ?_)
    have hP : va_P D vwD (wX h r1 f1 s1 cI R F S cn tl) H := hP
    have hD : va_D A (wX h r1 f1 s1 cI R F S cn tl) := hD
    refine lv_aload_n hx hb dX0_place_5 rfl (lv_at hl 0 rfl) ?_
    refine lv_iload_n hx hb dX0_place_6 rfl (lv_at hl 1 rfl) ?_
    refine r_i (rm := ({ frames := 0, cells := 0, slots := 0, locals := 0 } : Room)) (As := [.int ee]) (rest := []) (k_po l D ad cI cJ tl h r1 f1 s1 R F S cn ee hc) SC (cwV 1 hts gX0_place_X0_placeOf rfl rfl rfl (by decide +kernel) ⟨Nat.le_of_ble_eq_true rfl, Nat.le_of_ble_eq_true rfl⟩) hP hK hD hS hA hX 0 rfl rfl rfl hl.1 rfl (Nat.le_of_ble_eq_true rfl) dX0_place_7 ⟨Nat.le_of_ble_eq_true rfl, Nat.le_of_ble_eq_true rfl⟩ (fun H locs hP hD hS => ?_)
    have hP : va_P D vwD (wX h r1 f1 s1 cI R F S cn tl) H := hP
    have hD : va_D A (wX h r1 f1 s1 cI R F S cn tl) := hD
    exact e_t hx hb hr hlocks (rk_kP_0 he) hP hK hD hS dX0_place_10 (Nat.le_of_ble_eq_true rfl) (Nat.le_of_ble_eq_true rfl)
  · exact r_x (rm := ({ frames := 6, cells := 1, slots := 6, locals := 100 } : Room)) (As := [.int ee]) (rest := []) (k_ce_bad l D ad cI cJ tl h r1 f1 s1 R F S cn ee hl9 he) SC (cwV 1 hts gX0_place_X0_checkEntry rfl rfl rfl (by decide +kernel) ⟨Nat.le_of_ble_eq_true rfl, Nat.le_of_ble_eq_true rfl⟩) hP hK hD hS hA hX 0 rfl rfl rfl hl.1 rfl (Nat.le_of_ble_eq_true rfl) dX0_place_2 ⟨Nat.le_of_ble_eq_true rfl, Nat.le_of_ble_eq_true rfl⟩ hex hlocks (rk_kP_2 he).symm (Nat.le_of_ble_eq_true rfl) (Nat.le_of_ble_eq_true rfl)
