/-! The reference: behind0, before0, weigh0 -/
set_option maxHeartbeats 4000000 in
set_option maxRecDepth 100000 in
theorem j_behind (l : Launch) (D : va_G) (ad : Nat → Nat) (cI cJ : ClassId) (p0 p1 p2 p3 p4 : Nat × va_E) (h r1 f1 s1 : Nat) (R F S : Nat → Int32) (cn : Nat) (th : Int32) (ee n a b : Int32) (hl9 : l.stackTraces = false) (hR : rk_ok R cn) : uT l yZ_behind0 wsZ_behind0 ({ frames := 7, cells := 1, slots := 6, locals := 140 } : Room) D ad [(cI, .int), (cJ, .long)] [.ref h, .int ee, .int n, .int a, .int b] (wM p0 p1 p2 p3 p4 h r1 f1 s1 cI R F S cn th) (wM p0 p1 p2 p3 p4 h r1 f1 s1 cI (rk_in R cn (rk_pb R ee cn) n.toNatClampNeg) (rk_fl F cn n.toNatClampNeg a) (rk_fl S cn n.toNatClampNeg b) (cn + n.toNatClampNeg) th) (rk_kB ee n a b cn) (nI (cn + n.toNatClampNeg) - 1) := by
  unfold uT
  refine st_T (Qc := qT D [(cI, .int), (cJ, .long)] (wM p0 p1 p2 p3 p4 h r1 f1 s1 cI (rk_in R cn (rk_pb R ee cn) n.toNatClampNeg) (rk_fl F cn n.toNatClampNeg a) (rk_fl S cn n.toNatClampNeg b) (cn + n.toNatClampNeg) th) (rk_kB ee n a b cn) (nI (cn + n.toNatClampNeg) - 1)) (XC := xT D [(cI, .int), (cJ, .long)] (wM p0 p1 p2 p3 p4 h r1 f1 s1 cI R F S cn th) (rk_kB ee n a b cn)) (mc := 1) (ms := 6) (cc := cZ_behind0) (maxL := 7) (ret := (some .int)) [.ref h, .int ee, .int n, .int a, .int b] (by decide) rfl (Nat.le_of_ble_eq_true rfl) (fun p en s m below meth c A ls hex hx hb hr hlocks hml hts hown hA hS hP hK hD hX hl => ?_)
  have hown : s.vm.findClass RZ = some m.cls := hown
  have hl : lv_has ls 7 [(0, .ref h), (1, .int ee), (2, .int n), (3, .int a), (4, .int b)] := hl
  have hu : ∀ w ∈ u_ws RZ TZ 5, w ∈ wsZ_behind0 := fun w h => List.mem_cons_of_mem _ (wsZ0_in w h)
  have hF22 := hts (.fieldLink RZ 22 "RankRowsModel" "many" "I") (by decide +kernel)
  have SC : CallFix p m c cZ_behind0 7 s ([.ref h, .int ee, .int n, .int a, .int b] : List Value).toArray wsZ_behind0 RZ := ⟨hx, hb, hml, hown, hts⟩
  have hc := hR.1
  have hbad : rk_kB ee n a b cn = 1 → ∀ (H : Heap) (locs : List Loc), va_P D vwD (wM p0 p1 p2 p3 p4 h r1 f1 s1 cI R F S cn th) H → va_D A (wM p0 p1 p2 p3 p4 h r1 f1 s1 cI R F S cn th) → va_S A s.heap H locs → ∀ ls : Array Slot, lv_has ls 7 [(0, .ref h), (1, .int ee), (2, .int n), (3, .int a), (4, .int b)] → W p l en ({ frames := 7, cells := 1, slots := 6, locals := 140 } : Room) s m ([.ref h, .int ee, .int n, .int a, .int b] : List Value).toArray below meth c H locs 0 0 (vx_MQ below (qT D [(cI, .int), (cJ, .long)] (wM p0 p1 p2 p3 p4 h r1 f1 s1 cI (rk_in R cn (rk_pb R ee cn) n.toNatClampNeg) (rk_fl F cn n.toNatClampNeg a) (rk_fl S cn n.toNatClampNeg b) (cn + n.toNatClampNeg) th) (rk_kB ee n a b cn) (nI (cn + n.toNatClampNeg) - 1) A) (xT D [(cI, .int), (cJ, .long)] (wM p0 p1 p2 p3 p4 h r1 f1 s1 cI R F S cn th) (rk_kB ee n a b cn) A) ([.ref h, .int ee, .int n, .int a, .int b] : List Value).toArray s 1 6 A) (F0 m 31 ls []) := by
    intro hk1 H locs hP hD hS ls hl
    refine lv_iconst (v := 0) hx hb dZ_behind0_31 (by decide) ?_
    exact r_sx (rm := ({ frames := 6, cells := 1, slots := 6, locals := 100 } : Room)) (As := [.int 0]) (rest := []) (j_ch_bad l D ad cI cJ (wM p0 p1 p2 p3 p4 h r1 f1 s1 cI R F S cn th) hl9) SC (va_cwS 1 hts gZ_behind0_Z_check rfl rfl rfl (by decide +kernel) ⟨Nat.le_of_ble_eq_true rfl, Nat.le_of_ble_eq_true rfl⟩) hP hK hD hS hA hX rfl hl.1 rfl (Nat.le_of_ble_eq_true rfl) dZ_behind0_32 ⟨Nat.le_of_ble_eq_true rfl, Nat.le_of_ble_eq_true rfl⟩ hex hlocks hk1.symm (Nat.le_of_ble_eq_true rfl) (Nat.le_of_ble_eq_true rfl)
  have hput : ((¬ n < 1 ∧ n ≤ 200) ∧ rk_W a ∧ rk_W b) → (ee = -1 ∨ rk_E ee cn) → cn + n.toNatClampNeg ≤ 4000 → ∀ x : Int32, x = nI (rk_pb R ee cn) → ∀ (H : Heap) (locs : List Loc), va_P D vwD (wM p0 p1 p2 p3 p4 h r1 f1 s1 cI R F S cn th) H → va_D A (wM p0 p1 p2 p3 p4 h r1 f1 s1 cI R F S cn th) → va_S A s.heap H locs → ∀ ls : Array Slot, lv_has ls 7 [(0, .ref h), (1, .int ee), (2, .int n), (3, .int a), (4, .int b)] → W p l en ({ frames := 7, cells := 1, slots := 6, locals := 140 } : Room) s m ([.ref h, .int ee, .int n, .int a, .int b] : List Value).toArray below meth c H locs 0 0 (vx_MQ below (qT D [(cI, .int), (cJ, .long)] (wM p0 p1 p2 p3 p4 h r1 f1 s1 cI (rk_in R cn (rk_pb R ee cn) n.toNatClampNeg) (rk_fl F cn n.toNatClampNeg a) (rk_fl S cn n.toNatClampNeg b) (cn + n.toNatClampNeg) th) (rk_kB ee n a b cn) (nI (cn + n.toNatClampNeg) - 1) A) (xT D [(cI, .int), (cJ, .long)] (wM p0 p1 p2 p3 p4 h r1 f1 s1 cI R F S cn th) (rk_kB ee n a b cn) A) ([.ref h, .int ee, .int n, .int a, .int b] : List Value).toArray s 1 6 A) (F0 m 80 ls [.int x]) := by
    intro hg he hm x hxe H locs hP hD hS ls hl
    subst hxe
    obtain ⟨hk1, hk2, hn⟩ := rk_num hg.1.1 hg.1.2
    have hpb := rk_pb_le hR he
    refine lv_istore (lv' := [(5, .int (nI (rk_pb R ee cn))), (0, .ref h), (1, .int ee), (2, .int n), (3, .int a), (4, .int b)]) hx hb dZ_behind0_80 hl (by decide) rfl (fun ls hl => ?_)
    refine lv_iconst (v := 0) hx hb dZ_behind0_82 (by decide) ?_
    refine lv_istore (lv' := [(6, .int 0), (5, .int (nI (rk_pb R ee cn))), (0, .ref h), (1, .int ee), (2, .int n), (3, .int a), (4, .int b)]) hx hb dZ_behind0_83 hl (by decide) rfl (fun ls hl => ?_)
    have loop : ∀ (d i : Nat), n.toNatClampNeg - i < d → i ≤ n.toNatClampNeg → ∀ (H : Heap) (locs : List Loc), va_P D vwD (wM p0 p1 p2 p3 p4 h r1 f1 s1 cI (rk_in R cn (rk_pb R ee cn) i) (rk_fl F cn i a) (rk_fl S cn i b) (cn + i) th) H → va_D A (wM p0 p1 p2 p3 p4 h r1 f1 s1 cI (rk_in R cn (rk_pb R ee cn) i) (rk_fl F cn i a) (rk_fl S cn i b) (cn + i) th) → va_S A s.heap H locs → ∀ ls : Array Slot, lv_has ls 7 [(6, .int (nI i)), (5, .int (nI (rk_pb R ee cn))), (0, .ref h), (1, .int ee), (2, .int n), (3, .int a), (4, .int b)] → W p l en ({ frames := 7, cells := 1, slots := 6, locals := 140 } : Room) s m ([.ref h, .int ee, .int n, .int a, .int b] : List Value).toArray below meth c H locs 0 0 (vx_MQ below (qT D [(cI, .int), (cJ, .long)] (wM p0 p1 p2 p3 p4 h r1 f1 s1 cI (rk_in R cn (rk_pb R ee cn) n.toNatClampNeg) (rk_fl F cn n.toNatClampNeg a) (rk_fl S cn n.toNatClampNeg b) (cn + n.toNatClampNeg) th) (rk_kB ee n a b cn) (nI (cn + n.toNatClampNeg) - 1) A) (xT D [(cI, .int), (cJ, .long)] (wM p0 p1 p2 p3 p4 h r1 f1 s1 cI R F S cn th) (rk_kB ee n a b cn) A) ([.ref h, .int ee, .int n, .int a, .int b] : List Value).toArray s 1 6 A) (F0 m 85 ls []) := by
      intro d
      induction d with
      | zero => intro i hd; exact absurd hd (Nat.not_lt_zero _)
      | succ d ih =>
        intro i hd hik H locs hP hD hS ls hl
        refine lv_iload hx hb dZ_behind0_85 (lv_at hl 0 rfl) ?_
        refine lv_iload_n hx hb dZ_behind0_87 rfl (lv_at hl 4 rfl) ?_
        refine lv_icmp_ge (tgt := 109) hx hb dZ_behind0_88 (by decide) (fun h1 => ?_) (fun h1 => ?_)
        · have h1 : nI n.toNatClampNeg ≤ nI i := by rw [← hn]; exact h1
          have hki : i = n.toNatClampNeg := by have := (nI_leI (by omega) (by omega)).mp h1; omega
          rw [hki] at hP hD
          refine lv_aload_n hx hb dZ_behind0_109 rfl (lv_at hl 2 rfl) ?_
          refine va_get (D := D) (ci := 1) (v := .int (nI (cn + n.toNatClampNeg))) (C := RZ) (T := TZ) (N := 5) hx hb hts hu hown hK hP 5 rfl rfl 3 (by decide) hF22 (fun _ h9 => h9) rfl dZ_behind0_110 ?_
          refine lv_iconst (v := 1) hx hb dZ_behind0_113 (by decide) ?_
          refine lv_isub hx hb dZ_behind0_114 ?_
          exact e_t hx hb hr hlocks (rk_kB_0 hg he hm) hP hK hD hS dZ_behind0_115 (Nat.le_of_ble_eq_true rfl) (Nat.le_of_ble_eq_true rfl)
        · have hki : i < n.toNatClampNeg := Nat.lt_of_not_le (fun z9 => h1 (by rw [hn]; exact (nI_leI (by omega) (by omega)).mpr z9))
          refine lv_aload_n hx hb dZ_behind0_91 rfl (lv_at hl 2 rfl) ?_
          refine lv_iload hx hb dZ_behind0_92 (lv_at hl 1 rfl) ?_
          refine lv_iload hx hb dZ_behind0_94 (lv_at hl 0 rfl) ?_
          refine lv_iadd hx hb dZ_behind0_96 ?_
          refine q_top (nI ((rk_pb R ee cn) + i)) (nI_add _ _) ?_
          refine lv_iload_n hx hb dZ_behind0_97 rfl (lv_at hl 5 rfl) ?_
          refine lv_iload hx hb dZ_behind0_98 (lv_at hl 6 rfl) ?_
          refine r_v (rm := ({ frames := 0, cells := 0, slots := 0, locals := 0 } : Room)) (As := [.int (nI ((rk_pb R ee cn) + i)), .int a, .int b]) (rest := []) (j_op l D ad cI cJ p0 p1 p2 p3 p4 h r1 f1 s1 (rk_in R cn (rk_pb R ee cn) i) (rk_fl F cn i a) (rk_fl S cn i b) (cn + i) th (nI (rk_pb R ee cn + i)) a b (rk_pb R ee cn + i) rfl (by omega) (by omega)) SC (cwV 3 hts gZ_behind0_Z_open rfl rfl rfl (by decide +kernel) ⟨Nat.le_of_ble_eq_true rfl, Nat.le_of_ble_eq_true rfl⟩) hP hK hD hS hA hX 5 rfl rfl rfl hl.1 rfl (Nat.le_of_ble_eq_true rfl) dZ_behind0_100 ⟨Nat.le_of_ble_eq_true rfl, Nat.le_of_ble_eq_true rfl⟩ (fun H locs hP hD hS => ?_)
          have hP : va_P D vwD (wM p0 p1 p2 p3 p4 h r1 f1 s1 cI (rk_in (rk_in R cn (rk_pb R ee cn) i) (cn + i) (rk_pb R ee cn + i) 1) (rk_fl (rk_fl F cn i a) (cn + i) 1 a) (rk_fl (rk_fl S cn i b) (cn + i) 1 b) (cn + i + 1) th) H := hP
          have hD : va_D A (wM p0 p1 p2 p3 p4 h r1 f1 s1 cI (rk_in (rk_in R cn (rk_pb R ee cn) i) (cn + i) (rk_pb R ee cn + i) 1) (rk_fl (rk_fl F cn i a) (cn + i) 1 a) (rk_fl (rk_fl S cn i b) (cn + i) 1 b) (cn + i + 1) th) := hD
          have hs := rk_in_s R (c := cn) i hpb
          rw [hs, rk_fl_t, rk_fl_t] at hP hD
          have hP : va_P D vwD (wM p0 p1 p2 p3 p4 h r1 f1 s1 cI (rk_in R cn (rk_pb R ee cn) (i + 1)) (rk_fl F cn (i + 1) a) (rk_fl S cn (i + 1) b) (cn + (i + 1)) th) H := hP
          have hD : va_D A (wM p0 p1 p2 p3 p4 h r1 f1 s1 cI (rk_in R cn (rk_pb R ee cn) (i + 1)) (rk_fl F cn (i + 1) a) (rk_fl S cn (i + 1) b) (cn + (i + 1)) th) := hD
          refine lv_iinc (k := 0) (v := nI (i + 1)) (lv' := [(6, .int (nI (i + 1))), (5, .int (nI (rk_pb R ee cn))), (0, .ref h), (1, .int ee), (2, .int n), (3, .int a), (4, .int b)]) hx hb dZ_behind0_103 hl rfl (by rw [(by decide : Int32.ofInt 1 = 1)]; exact nI_1 _) (by decide) rfl (fun ls hl => ?_)
          refine lv_goto (tgt := 85) hx hb dZ_behind0_106 (by decide) ?_
          exact ih (i + 1) (by omega) (by omega) H locs hP hD hS ls hl
    have hP : va_P D vwD (wM p0 p1 p2 p3 p4 h r1 f1 s1 cI (rk_in R cn (rk_pb R ee cn) 0) (rk_fl F cn 0 a) (rk_fl S cn 0 b) (cn + 0) th) H := by rw [rk_in_0, rk_fl_0, rk_fl_0]; exact hP
    have hD : va_D A (wM p0 p1 p2 p3 p4 h r1 f1 s1 cI (rk_in R cn (rk_pb R ee cn) 0) (rk_fl F cn 0 a) (rk_fl S cn 0 b) (cn + 0) th) := by rw [rk_in_0, rk_fl_0, rk_fl_0]; exact hD
    exact loop (n.toNatClampNeg + 1) 0 (by omega) (Nat.zero_le _) H locs hP hD hS ls hl
  have hgo : ((¬ n < 1 ∧ n ≤ 200) ∧ rk_W a ∧ rk_W b) → (ee = -1 ∨ rk_E ee cn) → ∀ (H : Heap) (locs : List Loc), va_P D vwD (wM p0 p1 p2 p3 p4 h r1 f1 s1 cI R F S cn th) H → va_D A (wM p0 p1 p2 p3 p4 h r1 f1 s1 cI R F S cn th) → va_S A s.heap H locs → ∀ ls : Array Slot, lv_has ls 7 [(0, .ref h), (1, .int ee), (2, .int n), (3, .int a), (4, .int b)] → W p l en ({ frames := 7, cells := 1, slots := 6, locals := 140 } : Room) s m ([.ref h, .int ee, .int n, .int a, .int b] : List Value).toArray below meth c H locs 0 0 (vx_MQ below (qT D [(cI, .int), (cJ, .long)] (wM p0 p1 p2 p3 p4 h r1 f1 s1 cI (rk_in R cn (rk_pb R ee cn) n.toNatClampNeg) (rk_fl F cn n.toNatClampNeg a) (rk_fl S cn n.toNatClampNeg b) (cn + n.toNatClampNeg) th) (rk_kB ee n a b cn) (nI (cn + n.toNatClampNeg) - 1) A) (xT D [(cI, .int), (cJ, .long)] (wM p0 p1 p2 p3 p4 h r1 f1 s1 cI R F S cn th) (rk_kB ee n a b cn) A) ([.ref h, .int ee, .int n, .int a, .int b] : List Value).toArray s 1 6 A) (F0 m 45 ls []) := by
    intro hg he H locs hP hD hS ls hl
    obtain ⟨hk1, hk2, hn⟩ := rk_num hg.1.1 hg.1.2
    refine lv_aload_n hx hb dZ_behind0_45 rfl (lv_at hl 0 rfl) ?_
    refine va_get (D := D) (ci := 1) (v := .int (nI cn)) (C := RZ) (T := TZ) (N := 5) hx hb hts hu hown hK hP 5 rfl rfl 3 (by decide) hF22 (fun _ h9 => h9) rfl dZ_behind0_46 ?_
    refine lv_iload_n hx hb dZ_behind0_49 rfl (lv_at hl 2 rfl) ?_
    refine lv_iadd hx hb dZ_behind0_50 ?_
    refine q_top (nI (cn + n.toNatClampNeg)) ((congrArg (fun z9 => nI cn + z9) hn).trans (nI_add _ _)) ?_
    refine lv_sipush (v := 4000) hx hb dZ_behind0_51 (by decide) ?_
    refine lv_icmp_le (tgt := 65) hx hb dZ_behind0_54 (by decide) (fun h5 => ?_) (fun h5 => ?_)
    · have hm : cn + n.toNatClampNeg ≤ 4000 := by rw [rk_4000] at h5; exact (nI_leI (by omega) (by omega)).mp h5
      refine lv_iload_n hx hb dZ_behind0_65 rfl (lv_at hl 1 rfl) ?_
      refine lv_if_ge (tgt := 73) hx hb dZ_behind0_66 (by decide) (fun h6 => ?_) (fun h6 => ?_)
      · have he2 : rk_E ee cn := he.resolve_left (rk_ne_m1 (rk_nn h6))
        refine lv_aload_n hx hb dZ_behind0_73 rfl (lv_at hl 0 rfl) ?_
        refine lv_iload_n hx hb dZ_behind0_74 rfl (lv_at hl 1 rfl) ?_
        refine r_i (rm := ({ frames := 0, cells := 0, slots := 0, locals := 0 } : Room)) (As := [.int ee]) (rest := []) (j_ir l D ad cI cJ p0 p1 p2 p3 p4 h r1 f1 s1 R F S cn th ee hc (rk_pl_E hR he2)) SC (cwV 1 hts gZ_behind0_Z_inRow rfl rfl rfl (by decide +kernel) ⟨Nat.le_of_ble_eq_true rfl, Nat.le_of_ble_eq_true rfl⟩) hP hK hD hS hA hX 5 rfl rfl rfl hl.1 rfl (Nat.le_of_ble_eq_true rfl) dZ_behind0_75 ⟨Nat.le_of_ble_eq_true rfl, Nat.le_of_ble_eq_true rfl⟩ (fun H locs hP hD hS => ?_)
        have hP : va_P D vwD (wM p0 p1 p2 p3 p4 h r1 f1 s1 cI R F S cn th) H := hP
        have hD : va_D A (wM p0 p1 p2 p3 p4 h r1 f1 s1 cI R F S cn th) := hD
        refine lv_iconst (v := 1) hx hb dZ_behind0_78 (by decide) ?_
        refine lv_iadd hx hb dZ_behind0_79 ?_
        refine q_top (nI ((rk_pl R ee cn) + 1)) (nI_1 _) ?_
        exact hput hg he hm _ (by rw [rk_pb_n (rk_ne_m1 he2.1)]) H locs hP hD hS ls hl
      · have hem : ee = -1 := he.resolve_right (fun z9 => h6 (rk_le z9.1))
        refine lv_iconst (v := 0) hx hb dZ_behind0_69 (by decide) ?_
        refine lv_goto (tgt := 80) hx hb dZ_behind0_70 (by decide) ?_
        exact hput hg he hm _ (by rw [hem, rk_pb_m, nI_0]) H locs hP hD hS ls hl
    · exact vx_throw0 (own := RZ) (cls := "java/lang/IllegalStateException") (names := ["java/lang/RuntimeException", "java/lang/Exception"]) hx hb hl9 hown (by decide +kernel) (by decide +kernel) (hts (.classLink RZ 41 "java/lang/IllegalStateException") (by decide +kernel)) (hts (.initialized "java/lang/IllegalStateException") (by decide +kernel)) (vx_hat (L := vx_at0 RZ 43 "java/lang/IllegalStateException" ["java/lang/RuntimeException", "java/lang/Exception"]) (B := [.castable "java/lang/IllegalStateException" "java/lang/IllegalStateException", .declares ⟨"java/lang/RuntimeException", "<init>", "()V"⟩, .declares ⟨"java/lang/Exception", "<init>", "()V"⟩, .declares ⟨"java/lang/Throwable", "<init>", "()V"⟩]) (fun w hw => hts w (List.mem_cons_of_mem _ (wsR_43 w hw))) (by decide +kernel) (vx_c (va_Nw.use rfl (hX.2.1 _ (List.mem_of_getElem? (i := 2) rfl))) (vx_c (va_Nw.use rfl (hX.2.2.1 _ (List.mem_of_getElem? (i := 3) rfl))) (vx_c (va_Nw.use rfl (hX.2.2.1 _ (List.mem_of_getElem? (i := 4) rfl))) (vx_c (va_Nw.use rfl (hX.2.2.1 _ (List.mem_of_getElem? (i := 5) rfl))) (vx_n)))))) (by decide +kernel) hX.1.1 hX.1.2 hS (hl.1.trans hml.symm) dZ_behind0_57 dZ_behind0_60 dZ_behind0_61 dZ_behind0_64 (fun x h => (hex x h).elim) (Nat.le_of_ble_eq_true rfl) (Nat.le_of_ble_eq_true rfl) (Nat.le_of_ble_eq_true rfl) (Nat.le_of_ble_eq_true rfl) hlocks (r_t (rk_kB_3 hg he (fun z9 => h5 (by rw [rk_4000]; exact (nI_leI (by omega) (by omega)).mpr z9))) (by decide) (by decide +kernel) hP hK hD hS) hS.2.2 (Nat.le_of_ble_eq_true rfl) (Nat.le_of_ble_eq_true rfl)
  refine lv_iload_n hx hb dZ_behind0_0 rfl (lv_at hl 2 rfl) ?_
  refine lv_iconst (v := 1) hx hb dZ_behind0_1 (by decide) ?_
  refine lv_icmp_lt (tgt := 31) hx hb dZ_behind0_2 (by decide) (fun h1 => ?_) (fun h1 => ?_)
  · exact hbad (rk_kB_1 (fun q => q.1.1 h1)) s.heap [] hP hD hS ls hl
  · refine lv_iload_n hx hb dZ_behind0_5 rfl (lv_at hl 2 rfl) ?_
    refine lv_sipush (v := 200) hx hb dZ_behind0_6 (by decide) ?_
    refine lv_icmp_gt (tgt := 31) hx hb dZ_behind0_9 (by decide) (fun h2 => ?_) (fun h2 => ?_)
    · exact hbad (rk_kB_1 (fun q => absurd h2 (Int32.not_lt.mpr q.1.2))) s.heap [] hP hD hS ls hl
    · have h2 : n ≤ 200 := Int32.not_lt.mp h2
      refine lv_iload_n hx hb dZ_behind0_12 rfl (lv_at hl 3 rfl) ?_
      by_cases ha : rk_W a
      · refine r_si (rm := ({ frames := 0, cells := 0, slots := 0, locals := 0 } : Room)) (As := [.int a]) (rest := []) (j_iw_1 l D ad cI cJ (wM p0 p1 p2 p3 p4 h r1 f1 s1 cI R F S cn th) a ha) SC (va_cwS 1 hts gZ_behind0_Z_isWeight rfl rfl rfl (by decide +kernel) ⟨Nat.le_of_ble_eq_true rfl, Nat.le_of_ble_eq_true rfl⟩) hP hK hD hS hA hX rfl hl.1 rfl (Nat.le_of_ble_eq_true rfl) dZ_behind0_13 ⟨Nat.le_of_ble_eq_true rfl, Nat.le_of_ble_eq_true rfl⟩ (fun H locs hP hD hS => ?_)
        have hP : va_P D vwD (wM p0 p1 p2 p3 p4 h r1 f1 s1 cI R F S cn th) H := hP
        have hD : va_D A (wM p0 p1 p2 p3 p4 h r1 f1 s1 cI R F S cn th) := hD
        refine lv_if_eq (tgt := 31) hx hb dZ_behind0_16 (by decide) (fun h9 => absurd h9 ((by decide : ¬ (1 : Int32) = 0))) (fun _ => ?_)
        refine lv_iload hx hb dZ_behind0_19 (lv_at hl 4 rfl) ?_
        by_cases hb0 : rk_W b
        · refine r_si (rm := ({ frames := 0, cells := 0, slots := 0, locals := 0 } : Room)) (As := [.int b]) (rest := []) (j_iw_1 l D ad cI cJ (wM p0 p1 p2 p3 p4 h r1 f1 s1 cI R F S cn th) b hb0) SC (va_cwS 1 hts gZ_behind0_Z_isWeight rfl rfl rfl (by decide +kernel) ⟨Nat.le_of_ble_eq_true rfl, Nat.le_of_ble_eq_true rfl⟩) hP hK hD hS hA hX rfl hl.1 rfl (Nat.le_of_ble_eq_true rfl) dZ_behind0_21 ⟨Nat.le_of_ble_eq_true rfl, Nat.le_of_ble_eq_true rfl⟩ (fun H locs hP hD hS => ?_)
          have hP : va_P D vwD (wM p0 p1 p2 p3 p4 h r1 f1 s1 cI R F S cn th) H := hP
          have hD : va_D A (wM p0 p1 p2 p3 p4 h r1 f1 s1 cI R F S cn th) := hD
          refine lv_if_eq (tgt := 31) hx hb dZ_behind0_24 (by decide) (fun h9 => absurd h9 ((by decide : ¬ (1 : Int32) = 0))) (fun _ => ?_)
          refine lv_iconst (v := 1) hx hb dZ_behind0_27 (by decide) ?_
          refine lv_goto (tgt := 32) hx hb dZ_behind0_28 (by decide) ?_
          have hg : ((¬ n < 1 ∧ n ≤ 200) ∧ rk_W a ∧ rk_W b) := ⟨⟨h1, h2⟩, ha, hb0⟩
          refine r_sv (rm := ({ frames := 0, cells := 0, slots := 0, locals := 0 } : Room)) (As := [.int 1]) (rest := []) (j_ch_ok l D ad cI cJ (wM p0 p1 p2 p3 p4 h r1 f1 s1 cI R F S cn th)) SC (va_cwS 1 hts gZ_behind0_Z_check rfl rfl rfl (by decide +kernel) ⟨Nat.le_of_ble_eq_true rfl, Nat.le_of_ble_eq_true rfl⟩) hP hK hD hS hA hX rfl hl.1 rfl (Nat.le_of_ble_eq_true rfl) dZ_behind0_32 ⟨Nat.le_of_ble_eq_true rfl, Nat.le_of_ble_eq_true rfl⟩ (fun H locs hP hD hS => ?_)
          have hP : va_P D vwD (wM p0 p1 p2 p3 p4 h r1 f1 s1 cI R F S cn th) H := hP
          have hD : va_D A (wM p0 p1 p2 p3 p4 h r1 f1 s1 cI R F S cn th) := hD
          refine lv_iload_n hx hb dZ_behind0_35 rfl (lv_at hl 1 rfl) ?_
          refine lv_iconst (v := (-1)) hx hb dZ_behind0_36 (by decide) ?_
          refine lv_icmp_eq (tgt := 45) hx hb dZ_behind0_37 (by decide) (fun h3 => ?_) (fun h3 => ?_)
          · exact hgo hg (Or.inl h3) H locs hP hD hS ls hl
          · refine lv_aload_n hx hb dZ_behind0_40 rfl (lv_at hl 0 rfl) ?_
            refine lv_iload_n hx hb dZ_behind0_41 rfl (lv_at hl 1 rfl) ?_
            by_cases he : rk_E ee cn
            · refine r_v (rm := ({ frames := 0, cells := 0, slots := 0, locals := 0 } : Room)) (As := [.int ee]) (rest := []) (j_th_ok l D ad cI cJ p0 p1 p2 p3 p4 h r1 f1 s1 R F S cn th ee he) SC (cwV 1 hts gZ_behind0_Z_there rfl rfl rfl (by decide +kernel) ⟨Nat.le_of_ble_eq_true rfl, Nat.le_of_ble_eq_true rfl⟩) hP hK hD hS hA hX 5 rfl rfl rfl hl.1 rfl (Nat.le_of_ble_eq_true rfl) dZ_behind0_42 ⟨Nat.le_of_ble_eq_true rfl, Nat.le_of_ble_eq_true rfl⟩ (fun H locs hP hD hS => ?_)
              have hP : va_P D vwD (wM p0 p1 p2 p3 p4 h r1 f1 s1 cI R F S cn th) H := hP
              have hD : va_D A (wM p0 p1 p2 p3 p4 h r1 f1 s1 cI R F S cn th) := hD
              exact hgo hg (Or.inr he) H locs hP hD hS ls hl
            · exact r_x (rm := ({ frames := 6, cells := 1, slots := 6, locals := 100 } : Room)) (As := [.int ee]) (rest := []) (j_th_bad l D ad cI cJ p0 p1 p2 p3 p4 h r1 f1 s1 R F S cn th ee hl9 he) SC (cwV 1 hts gZ_behind0_Z_there rfl rfl rfl (by decide +kernel) ⟨Nat.le_of_ble_eq_true rfl, Nat.le_of_ble_eq_true rfl⟩) hP hK hD hS hA hX 5 rfl rfl rfl hl.1 rfl (Nat.le_of_ble_eq_true rfl) dZ_behind0_42 ⟨Nat.le_of_ble_eq_true rfl, Nat.le_of_ble_eq_true rfl⟩ hex hlocks (rk_kB_2 hg (fun q => q.elim h3 he)).symm (Nat.le_of_ble_eq_true rfl) (Nat.le_of_ble_eq_true rfl)
        · refine r_si (rm := ({ frames := 0, cells := 0, slots := 0, locals := 0 } : Room)) (As := [.int b]) (rest := []) (j_iw_0 l D ad cI cJ (wM p0 p1 p2 p3 p4 h r1 f1 s1 cI R F S cn th) b hb0) SC (va_cwS 1 hts gZ_behind0_Z_isWeight rfl rfl rfl (by decide +kernel) ⟨Nat.le_of_ble_eq_true rfl, Nat.le_of_ble_eq_true rfl⟩) hP hK hD hS hA hX rfl hl.1 rfl (Nat.le_of_ble_eq_true rfl) dZ_behind0_21 ⟨Nat.le_of_ble_eq_true rfl, Nat.le_of_ble_eq_true rfl⟩ (fun H locs hP hD hS => ?_)
          have hP : va_P D vwD (wM p0 p1 p2 p3 p4 h r1 f1 s1 cI R F S cn th) H := hP
          have hD : va_D A (wM p0 p1 p2 p3 p4 h r1 f1 s1 cI R F S cn th) := hD
          refine lv_if_eq (tgt := 31) hx hb dZ_behind0_24 (by decide) (fun _ => ?_) (fun h9 => absurd (rfl) h9)
          exact hbad (rk_kB_1 (fun q => hb0 q.2.2)) H locs hP hD hS ls hl
      · refine r_si (rm := ({ frames := 0, cells := 0, slots := 0, locals := 0 } : Room)) (As := [.int a]) (rest := []) (j_iw_0 l D ad cI cJ (wM p0 p1 p2 p3 p4 h r1 f1 s1 cI R F S cn th) a ha) SC (va_cwS 1 hts gZ_behind0_Z_isWeight rfl rfl rfl (by decide +kernel) ⟨Nat.le_of_ble_eq_true rfl, Nat.le_of_ble_eq_true rfl⟩) hP hK hD hS hA hX rfl hl.1 rfl (Nat.le_of_ble_eq_true rfl) dZ_behind0_13 ⟨Nat.le_of_ble_eq_true rfl, Nat.le_of_ble_eq_true rfl⟩ (fun H locs hP hD hS => ?_)
        have hP : va_P D vwD (wM p0 p1 p2 p3 p4 h r1 f1 s1 cI R F S cn th) H := hP
        have hD : va_D A (wM p0 p1 p2 p3 p4 h r1 f1 s1 cI R F S cn th) := hD
        refine lv_if_eq (tgt := 31) hx hb dZ_behind0_16 (by decide) (fun _ => ?_) (fun h9 => absurd (rfl) h9)
        exact hbad (rk_kB_1 (fun q => ha q.2.1)) H locs hP hD hS ls hl
set_option maxHeartbeats 4000000 in
set_option maxRecDepth 100000 in
theorem j_before (l : Launch) (D : va_G) (ad : Nat → Nat) (cI cJ : ClassId) (p0 p1 p2 p3 p4 : Nat × va_E) (h r1 f1 s1 : Nat) (R F S : Nat → Int32) (cn : Nat) (th : Int32) (ee a b : Int32) (hl9 : l.stackTraces = false) (hR : rk_ok R cn) : uT l yZ_before0 wsZ_before0 ({ frames := 7, cells := 1, slots := 6, locals := 140 } : Room) D ad [(cI, .int), (cJ, .long)] [.ref h, .int ee, .int a, .int b] (wM p0 p1 p2 p3 p4 h r1 f1 s1 cI R F S cn th) (wM p0 p1 p2 p3 p4 h r1 f1 s1 cI (rk_in R cn (rk_pl R ee cn) 1) (rk_fl F cn 1 a) (rk_fl S cn 1 b) (cn + 1) th) (rk_kF ee a b cn) (nI (cn + 1) - 1) := by
  unfold uT
  refine st_T (Qc := qT D [(cI, .int), (cJ, .long)] (wM p0 p1 p2 p3 p4 h r1 f1 s1 cI (rk_in R cn (rk_pl R ee cn) 1) (rk_fl F cn 1 a) (rk_fl S cn 1 b) (cn + 1) th) (rk_kF ee a b cn) (nI (cn + 1) - 1)) (XC := xT D [(cI, .int), (cJ, .long)] (wM p0 p1 p2 p3 p4 h r1 f1 s1 cI R F S cn th) (rk_kF ee a b cn)) (mc := 1) (ms := 6) (cc := cZ_before0) (maxL := 4) (ret := (some .int)) [.ref h, .int ee, .int a, .int b] (by decide) rfl (Nat.le_of_ble_eq_true rfl) (fun p en s m below meth c A ls hex hx hb hr hlocks hml hts hown hA hS hP hK hD hX hl => ?_)
  have hown : s.vm.findClass RZ = some m.cls := hown
  have hl : lv_has ls 4 [(0, .ref h), (1, .int ee), (2, .int a), (3, .int b)] := hl
  have hu : ∀ w ∈ u_ws RZ TZ 5, w ∈ wsZ_before0 := fun w h => List.mem_cons_of_mem _ (wsZ0_in w h)
  have hF22 := hts (.fieldLink RZ 22 "RankRowsModel" "many" "I") (by decide +kernel)
  have SC : CallFix p m c cZ_before0 4 s ([.ref h, .int ee, .int a, .int b] : List Value).toArray wsZ_before0 RZ := ⟨hx, hb, hml, hown, hts⟩
  have hc := hR.1
  have hbad : rk_kF ee a b cn = 1 → ∀ (H : Heap) (locs : List Loc), va_P D vwD (wM p0 p1 p2 p3 p4 h r1 f1 s1 cI R F S cn th) H → va_D A (wM p0 p1 p2 p3 p4 h r1 f1 s1 cI R F S cn th) → va_S A s.heap H locs → ∀ ls : Array Slot, lv_has ls 4 [(0, .ref h), (1, .int ee), (2, .int a), (3, .int b)] → W p l en ({ frames := 7, cells := 1, slots := 6, locals := 140 } : Room) s m ([.ref h, .int ee, .int a, .int b] : List Value).toArray below meth c H locs 0 0 (vx_MQ below (qT D [(cI, .int), (cJ, .long)] (wM p0 p1 p2 p3 p4 h r1 f1 s1 cI (rk_in R cn (rk_pl R ee cn) 1) (rk_fl F cn 1 a) (rk_fl S cn 1 b) (cn + 1) th) (rk_kF ee a b cn) (nI (cn + 1) - 1) A) (xT D [(cI, .int), (cJ, .long)] (wM p0 p1 p2 p3 p4 h r1 f1 s1 cI R F S cn th) (rk_kF ee a b cn) A) ([.ref h, .int ee, .int a, .int b] : List Value).toArray s 1 6 A) (F0 m 18 ls []) := by
    intro hk1 H locs hP hD hS ls hl
    refine lv_iconst (v := 0) hx hb dZ_before0_18 (by decide) ?_
    exact r_sx (rm := ({ frames := 6, cells := 1, slots := 6, locals := 100 } : Room)) (As := [.int 0]) (rest := []) (j_ch_bad l D ad cI cJ (wM p0 p1 p2 p3 p4 h r1 f1 s1 cI R F S cn th) hl9) SC (va_cwS 1 hts gZ_before0_Z_check rfl rfl rfl (by decide +kernel) ⟨Nat.le_of_ble_eq_true rfl, Nat.le_of_ble_eq_true rfl⟩) hP hK hD hS hA hX rfl hl.1 rfl (Nat.le_of_ble_eq_true rfl) dZ_before0_19 ⟨Nat.le_of_ble_eq_true rfl, Nat.le_of_ble_eq_true rfl⟩ hex hlocks hk1.symm (Nat.le_of_ble_eq_true rfl) (Nat.le_of_ble_eq_true rfl)
  refine lv_iload_n hx hb dZ_before0_0 rfl (lv_at hl 2 rfl) ?_
  by_cases ha : rk_W a
  · refine r_si (rm := ({ frames := 0, cells := 0, slots := 0, locals := 0 } : Room)) (As := [.int a]) (rest := []) (j_iw_1 l D ad cI cJ (wM p0 p1 p2 p3 p4 h r1 f1 s1 cI R F S cn th) a ha) SC (va_cwS 1 hts gZ_before0_Z_isWeight rfl rfl rfl (by decide +kernel) ⟨Nat.le_of_ble_eq_true rfl, Nat.le_of_ble_eq_true rfl⟩) hP hK hD hS hA hX rfl hl.1 rfl (Nat.le_of_ble_eq_true rfl) dZ_before0_1 ⟨Nat.le_of_ble_eq_true rfl, Nat.le_of_ble_eq_true rfl⟩ (fun H locs hP hD hS => ?_)
    have hP : va_P D vwD (wM p0 p1 p2 p3 p4 h r1 f1 s1 cI R F S cn th) H := hP
    have hD : va_D A (wM p0 p1 p2 p3 p4 h r1 f1 s1 cI R F S cn th) := hD
    refine lv_if_eq (tgt := 18) hx hb dZ_before0_4 (by decide) (fun h9 => absurd h9 ((by decide : ¬ (1 : Int32) = 0))) (fun _ => ?_)
    refine lv_iload_n hx hb dZ_before0_7 rfl (lv_at hl 3 rfl) ?_
    by_cases hb0 : rk_W b
    · refine r_si (rm := ({ frames := 0, cells := 0, slots := 0, locals := 0 } : Room)) (As := [.int b]) (rest := []) (j_iw_1 l D ad cI cJ (wM p0 p1 p2 p3 p4 h r1 f1 s1 cI R F S cn th) b hb0) SC (va_cwS 1 hts gZ_before0_Z_isWeight rfl rfl rfl (by decide +kernel) ⟨Nat.le_of_ble_eq_true rfl, Nat.le_of_ble_eq_true rfl⟩) hP hK hD hS hA hX rfl hl.1 rfl (Nat.le_of_ble_eq_true rfl) dZ_before0_8 ⟨Nat.le_of_ble_eq_true rfl, Nat.le_of_ble_eq_true rfl⟩ (fun H locs hP hD hS => ?_)
      have hP : va_P D vwD (wM p0 p1 p2 p3 p4 h r1 f1 s1 cI R F S cn th) H := hP
      have hD : va_D A (wM p0 p1 p2 p3 p4 h r1 f1 s1 cI R F S cn th) := hD
      refine lv_if_eq (tgt := 18) hx hb dZ_before0_11 (by decide) (fun h9 => absurd h9 ((by decide : ¬ (1 : Int32) = 0))) (fun _ => ?_)
      refine lv_iconst (v := 1) hx hb dZ_before0_14 (by decide) ?_
      refine lv_goto (tgt := 19) hx hb dZ_before0_15 (by decide) ?_
      refine r_sv (rm := ({ frames := 0, cells := 0, slots := 0, locals := 0 } : Room)) (As := [.int 1]) (rest := []) (j_ch_ok l D ad cI cJ (wM p0 p1 p2 p3 p4 h r1 f1 s1 cI R F S cn th)) SC (va_cwS 1 hts gZ_before0_Z_check rfl rfl rfl (by decide +kernel) ⟨Nat.le_of_ble_eq_true rfl, Nat.le_of_ble_eq_true rfl⟩) hP hK hD hS hA hX rfl hl.1 rfl (Nat.le_of_ble_eq_true rfl) dZ_before0_19 ⟨Nat.le_of_ble_eq_true rfl, Nat.le_of_ble_eq_true rfl⟩ (fun H locs hP hD hS => ?_)
      have hP : va_P D vwD (wM p0 p1 p2 p3 p4 h r1 f1 s1 cI R F S cn th) H := hP
      have hD : va_D A (wM p0 p1 p2 p3 p4 h r1 f1 s1 cI R F S cn th) := hD
      refine lv_aload_n hx hb dZ_before0_22 rfl (lv_at hl 0 rfl) ?_
      refine lv_iload_n hx hb dZ_before0_23 rfl (lv_at hl 1 rfl) ?_
      by_cases he : rk_E ee cn
      · refine r_v (rm := ({ frames := 0, cells := 0, slots := 0, locals := 0 } : Room)) (As := [.int ee]) (rest := []) (j_th_ok l D ad cI cJ p0 p1 p2 p3 p4 h r1 f1 s1 R F S cn th ee he) SC (cwV 1 hts gZ_before0_Z_there rfl rfl rfl (by decide +kernel) ⟨Nat.le_of_ble_eq_true rfl, Nat.le_of_ble_eq_true rfl⟩) hP hK hD hS hA hX 5 rfl rfl rfl hl.1 rfl (Nat.le_of_ble_eq_true rfl) dZ_before0_24 ⟨Nat.le_of_ble_eq_true rfl, Nat.le_of_ble_eq_true rfl⟩ (fun H locs hP hD hS => ?_)
        have hP : va_P D vwD (wM p0 p1 p2 p3 p4 h r1 f1 s1 cI R F S cn th) H := hP
        have hD : va_D A (wM p0 p1 p2 p3 p4 h r1 f1 s1 cI R F S cn th) := hD
        refine lv_aload_n hx hb dZ_before0_27 rfl (lv_at hl 0 rfl) ?_
        refine va_get (D := D) (ci := 1) (v := .int (nI cn)) (C := RZ) (T := TZ) (N := 5) hx hb hts hu hown hK hP 5 rfl rfl 3 (by decide) hF22 (fun _ h9 => h9) rfl dZ_before0_28 ?_
        refine lv_sipush (v := 4000) hx hb dZ_before0_31 (by decide) ?_
        refine lv_icmp_ne (tgt := 45) hx hb dZ_before0_34 (by decide) (fun h5 => ?_) (fun h5 => ?_)
        · have hm : cn + 1 ≤ 4000 := by
            have q : cn ≠ 4000 := fun q => h5 (by rw [q]; exact rk_4000.symm)
            omega
          refine lv_aload_n hx hb dZ_before0_45 rfl (lv_at hl 0 rfl) ?_
          refine lv_aload_n hx hb dZ_before0_46 rfl (lv_at hl 0 rfl) ?_
          refine lv_iload_n hx hb dZ_before0_47 rfl (lv_at hl 1 rfl) ?_
          refine r_i (rm := ({ frames := 0, cells := 0, slots := 0, locals := 0 } : Room)) (As := [.int ee]) (rest := [.ref h]) (j_ir l D ad cI cJ p0 p1 p2 p3 p4 h r1 f1 s1 R F S cn th ee hc (rk_pl_E hR he)) SC (cwV 1 hts gZ_before0_Z_inRow rfl rfl rfl (by decide +kernel) ⟨Nat.le_of_ble_eq_true rfl, Nat.le_of_ble_eq_true rfl⟩) hP hK hD hS hA hX 5 rfl rfl rfl hl.1 rfl (Nat.le_of_ble_eq_true rfl) dZ_before0_48 ⟨Nat.le_of_ble_eq_true rfl, Nat.le_of_ble_eq_true rfl⟩ (fun H locs hP hD hS => ?_)
          have hP : va_P D vwD (wM p0 p1 p2 p3 p4 h r1 f1 s1 cI R F S cn th) H := hP
          have hD : va_D A (wM p0 p1 p2 p3 p4 h r1 f1 s1 cI R F S cn th) := hD
          refine lv_iload_n hx hb dZ_before0_51 rfl (lv_at hl 2 rfl) ?_
          refine lv_iload_n hx hb dZ_before0_52 rfl (lv_at hl 3 rfl) ?_
          refine r_v (rm := ({ frames := 0, cells := 0, slots := 0, locals := 0 } : Room)) (As := [.int (nI (rk_pl R ee cn)), .int a, .int b]) (rest := []) (j_op l D ad cI cJ p0 p1 p2 p3 p4 h r1 f1 s1 R F S cn th (nI (rk_pl R ee cn)) a b (rk_pl R ee cn) rfl (rk_pl_le R ee cn) hm) SC (cwV 3 hts gZ_before0_Z_open rfl rfl rfl (by decide +kernel) ⟨Nat.le_of_ble_eq_true rfl, Nat.le_of_ble_eq_true rfl⟩) hP hK hD hS hA hX 5 rfl rfl rfl hl.1 rfl (Nat.le_of_ble_eq_true rfl) dZ_before0_53 ⟨Nat.le_of_ble_eq_true rfl, Nat.le_of_ble_eq_true rfl⟩ (fun H locs hP hD hS => ?_)
          have hP : va_P D vwD (wM p0 p1 p2 p3 p4 h r1 f1 s1 cI (rk_in R cn (rk_pl R ee cn) 1) (rk_fl F cn 1 a) (rk_fl S cn 1 b) (cn + 1) th) H := hP
          have hD : va_D A (wM p0 p1 p2 p3 p4 h r1 f1 s1 cI (rk_in R cn (rk_pl R ee cn) 1) (rk_fl F cn 1 a) (rk_fl S cn 1 b) (cn + 1) th) := hD
          refine lv_aload_n hx hb dZ_before0_56 rfl (lv_at hl 0 rfl) ?_
          refine va_get (D := D) (ci := 1) (v := .int (nI (cn + 1))) (C := RZ) (T := TZ) (N := 5) hx hb hts hu hown hK hP 5 rfl rfl 3 (by decide) hF22 (fun _ h9 => h9) rfl dZ_before0_57 ?_
          refine lv_iconst (v := 1) hx hb dZ_before0_60 (by decide) ?_
          refine lv_isub hx hb dZ_before0_61 ?_
          exact e_t hx hb hr hlocks (rk_kF_0 ⟨ha, hb0⟩ he hm) hP hK hD hS dZ_before0_62 (Nat.le_of_ble_eq_true rfl) (Nat.le_of_ble_eq_true rfl)
        · have hm : cn = 4000 := by rw [rk_4000] at h5; exact (nI_eq (by omega) (by omega)).mp h5
          exact vx_throw0 (own := RZ) (cls := "java/lang/IllegalStateException") (names := ["java/lang/RuntimeException", "java/lang/Exception"]) hx hb hl9 hown (by decide +kernel) (by decide +kernel) (hts (.classLink RZ 41 "java/lang/IllegalStateException") (by decide +kernel)) (hts (.initialized "java/lang/IllegalStateException") (by decide +kernel)) (vx_hat (L := vx_at0 RZ 43 "java/lang/IllegalStateException" ["java/lang/RuntimeException", "java/lang/Exception"]) (B := [.castable "java/lang/IllegalStateException" "java/lang/IllegalStateException", .declares ⟨"java/lang/RuntimeException", "<init>", "()V"⟩, .declares ⟨"java/lang/Exception", "<init>", "()V"⟩, .declares ⟨"java/lang/Throwable", "<init>", "()V"⟩]) (fun w hw => hts w (List.mem_cons_of_mem _ (wsR_43 w hw))) (by decide +kernel) (vx_c (va_Nw.use rfl (hX.2.1 _ (List.mem_of_getElem? (i := 2) rfl))) (vx_c (va_Nw.use rfl (hX.2.2.1 _ (List.mem_of_getElem? (i := 3) rfl))) (vx_c (va_Nw.use rfl (hX.2.2.1 _ (List.mem_of_getElem? (i := 4) rfl))) (vx_c (va_Nw.use rfl (hX.2.2.1 _ (List.mem_of_getElem? (i := 5) rfl))) (vx_n)))))) (by decide +kernel) hX.1.1 hX.1.2 hS (hl.1.trans hml.symm) dZ_before0_37 dZ_before0_40 dZ_before0_41 dZ_before0_44 (fun x h => (hex x h).elim) (Nat.le_of_ble_eq_true rfl) (Nat.le_of_ble_eq_true rfl) (Nat.le_of_ble_eq_true rfl) (Nat.le_of_ble_eq_true rfl) hlocks (r_t (rk_kF_3 ⟨ha, hb0⟩ he (by omega)) (by decide) (by decide +kernel) hP hK hD hS) hS.2.2 (Nat.le_of_ble_eq_true rfl) (Nat.le_of_ble_eq_true rfl)
      · exact r_x (rm := ({ frames := 6, cells := 1, slots := 6, locals := 100 } : Room)) (As := [.int ee]) (rest := []) (j_th_bad l D ad cI cJ p0 p1 p2 p3 p4 h r1 f1 s1 R F S cn th ee hl9 he) SC (cwV 1 hts gZ_before0_Z_there rfl rfl rfl (by decide +kernel) ⟨Nat.le_of_ble_eq_true rfl, Nat.le_of_ble_eq_true rfl⟩) hP hK hD hS hA hX 5 rfl rfl rfl hl.1 rfl (Nat.le_of_ble_eq_true rfl) dZ_before0_24 ⟨Nat.le_of_ble_eq_true rfl, Nat.le_of_ble_eq_true rfl⟩ hex hlocks (rk_kF_2 ⟨ha, hb0⟩ he).symm (Nat.le_of_ble_eq_true rfl) (Nat.le_of_ble_eq_true rfl)
    · refine r_si (rm := ({ frames := 0, cells := 0, slots := 0, locals := 0 } : Room)) (As := [.int b]) (rest := []) (j_iw_0 l D ad cI cJ (wM p0 p1 p2 p3 p4 h r1 f1 s1 cI R F S cn th) b hb0) SC (va_cwS 1 hts gZ_before0_Z_isWeight rfl rfl rfl (by decide +kernel) ⟨Nat.le_of_ble_eq_true rfl, Nat.le_of_ble_eq_true rfl⟩) hP hK hD hS hA hX rfl hl.1 rfl (Nat.le_of_ble_eq_true rfl) dZ_before0_8 ⟨Nat.le_of_ble_eq_true rfl, Nat.le_of_ble_eq_true rfl⟩ (fun H locs hP hD hS => ?_)
      have hP : va_P D vwD (wM p0 p1 p2 p3 p4 h r1 f1 s1 cI R F S cn th) H := hP
      have hD : va_D A (wM p0 p1 p2 p3 p4 h r1 f1 s1 cI R F S cn th) := hD
      refine lv_if_eq (tgt := 18) hx hb dZ_before0_11 (by decide) (fun _ => ?_) (fun h9 => absurd (rfl) h9)
      exact hbad (rk_kF_1 (fun q => hb0 q.2)) H locs hP hD hS ls hl
  · refine r_si (rm := ({ frames := 0, cells := 0, slots := 0, locals := 0 } : Room)) (As := [.int a]) (rest := []) (j_iw_0 l D ad cI cJ (wM p0 p1 p2 p3 p4 h r1 f1 s1 cI R F S cn th) a ha) SC (va_cwS 1 hts gZ_before0_Z_isWeight rfl rfl rfl (by decide +kernel) ⟨Nat.le_of_ble_eq_true rfl, Nat.le_of_ble_eq_true rfl⟩) hP hK hD hS hA hX rfl hl.1 rfl (Nat.le_of_ble_eq_true rfl) dZ_before0_1 ⟨Nat.le_of_ble_eq_true rfl, Nat.le_of_ble_eq_true rfl⟩ (fun H locs hP hD hS => ?_)
    have hP : va_P D vwD (wM p0 p1 p2 p3 p4 h r1 f1 s1 cI R F S cn th) H := hP
    have hD : va_D A (wM p0 p1 p2 p3 p4 h r1 f1 s1 cI R F S cn th) := hD
    refine lv_if_eq (tgt := 18) hx hb dZ_before0_4 (by decide) (fun _ => ?_) (fun h9 => absurd (rfl) h9)
    exact hbad (rk_kF_1 (fun q => ha q.1)) H locs hP hD hS ls hl
set_option maxHeartbeats 4000000 in
set_option maxRecDepth 100000 in
theorem j_weigh (l : Launch) (D : va_G) (ad : Nat → Nat) (cI cJ : ClassId) (p0 p1 p2 p3 p4 : Nat × va_E) (h r1 f1 s1 : Nat) (R F S : Nat → Int32) (cn : Nat) (th : Int32) (ee a b : Int32) (hl9 : l.stackTraces = false) (hR : rk_ok R cn) : uT l yZ_weigh0 wsZ_weigh0 ({ frames := 7, cells := 1, slots := 6, locals := 140 } : Room) D ad [(cI, .int), (cJ, .long)] [.ref h, .int ee, .int a, .int b] (wM p0 p1 p2 p3 p4 h r1 f1 s1 cI R F S cn th) (wM p0 p1 p2 p3 p4 h r1 f1 s1 cI R (upd F ee.toNatClampNeg a) (upd S ee.toNatClampNeg b) cn th) (rk_kW ee a b cn) (F ee.toNatClampNeg) := by
  unfold uT
  refine st_T (Qc := qT D [(cI, .int), (cJ, .long)] (wM p0 p1 p2 p3 p4 h r1 f1 s1 cI R (upd F ee.toNatClampNeg a) (upd S ee.toNatClampNeg b) cn th) (rk_kW ee a b cn) (F ee.toNatClampNeg)) (XC := xT D [(cI, .int), (cJ, .long)] (wM p0 p1 p2 p3 p4 h r1 f1 s1 cI R F S cn th) (rk_kW ee a b cn)) (mc := 1) (ms := 6) (cc := cZ_weigh0) (maxL := 5) (ret := (some .int)) [.ref h, .int ee, .int a, .int b] (by decide) rfl (Nat.le_of_ble_eq_true rfl) (fun p en s m below meth c A ls hex hx hb hr hlocks hml hts hown hA hS hP hK hD hX hl => ?_)
  have hown : s.vm.findClass RZ = some m.cls := hown
  have hl : lv_has ls 5 [(0, .ref h), (1, .int ee), (2, .int a), (3, .int b)] := hl
  have hu : ∀ w ∈ u_ws RZ TZ 5, w ∈ wsZ_weigh0 := fun w h => List.mem_cons_of_mem _ (wsZ0_in w h)
  have hF13 := hts (.fieldLink RZ 13 "RankRowsModel" "first" "[I") (by decide +kernel)
  have hF16 := hts (.fieldLink RZ 16 "RankRowsModel" "second" "[I") (by decide +kernel)
  have SC : CallFix p m c cZ_weigh0 5 s ([.ref h, .int ee, .int a, .int b] : List Value).toArray wsZ_weigh0 RZ := ⟨hx, hb, hml, hown, hts⟩
  have hc := hR.1
  have hbad : rk_kW ee a b cn = 1 → ∀ (H : Heap) (locs : List Loc), va_P D vwD (wM p0 p1 p2 p3 p4 h r1 f1 s1 cI R F S cn th) H → va_D A (wM p0 p1 p2 p3 p4 h r1 f1 s1 cI R F S cn th) → va_S A s.heap H locs → ∀ ls : Array Slot, lv_has ls 5 [(0, .ref h), (1, .int ee), (2, .int a), (3, .int b)] → W p l en ({ frames := 7, cells := 1, slots := 6, locals := 140 } : Room) s m ([.ref h, .int ee, .int a, .int b] : List Value).toArray below meth c H locs 0 0 (vx_MQ below (qT D [(cI, .int), (cJ, .long)] (wM p0 p1 p2 p3 p4 h r1 f1 s1 cI R (upd F ee.toNatClampNeg a) (upd S ee.toNatClampNeg b) cn th) (rk_kW ee a b cn) (F ee.toNatClampNeg) A) (xT D [(cI, .int), (cJ, .long)] (wM p0 p1 p2 p3 p4 h r1 f1 s1 cI R F S cn th) (rk_kW ee a b cn) A) ([.ref h, .int ee, .int a, .int b] : List Value).toArray s 1 6 A) (F0 m 18 ls []) := by
    intro hk1 H locs hP hD hS ls hl
    refine lv_iconst (v := 0) hx hb dZ_weigh0_18 (by decide) ?_
    exact r_sx (rm := ({ frames := 6, cells := 1, slots := 6, locals := 100 } : Room)) (As := [.int 0]) (rest := []) (j_ch_bad l D ad cI cJ (wM p0 p1 p2 p3 p4 h r1 f1 s1 cI R F S cn th) hl9) SC (va_cwS 1 hts gZ_weigh0_Z_check rfl rfl rfl (by decide +kernel) ⟨Nat.le_of_ble_eq_true rfl, Nat.le_of_ble_eq_true rfl⟩) hP hK hD hS hA hX rfl hl.1 rfl (Nat.le_of_ble_eq_true rfl) dZ_weigh0_19 ⟨Nat.le_of_ble_eq_true rfl, Nat.le_of_ble_eq_true rfl⟩ hex hlocks hk1.symm (Nat.le_of_ble_eq_true rfl) (Nat.le_of_ble_eq_true rfl)
  refine lv_iload_n hx hb dZ_weigh0_0 rfl (lv_at hl 2 rfl) ?_
  by_cases ha : rk_W a
  · refine r_si (rm := ({ frames := 0, cells := 0, slots := 0, locals := 0 } : Room)) (As := [.int a]) (rest := []) (j_iw_1 l D ad cI cJ (wM p0 p1 p2 p3 p4 h r1 f1 s1 cI R F S cn th) a ha) SC (va_cwS 1 hts gZ_weigh0_Z_isWeight rfl rfl rfl (by decide +kernel) ⟨Nat.le_of_ble_eq_true rfl, Nat.le_of_ble_eq_true rfl⟩) hP hK hD hS hA hX rfl hl.1 rfl (Nat.le_of_ble_eq_true rfl) dZ_weigh0_1 ⟨Nat.le_of_ble_eq_true rfl, Nat.le_of_ble_eq_true rfl⟩ (fun H locs hP hD hS => ?_)
    have hP : va_P D vwD (wM p0 p1 p2 p3 p4 h r1 f1 s1 cI R F S cn th) H := hP
    have hD : va_D A (wM p0 p1 p2 p3 p4 h r1 f1 s1 cI R F S cn th) := hD
    refine lv_if_eq (tgt := 18) hx hb dZ_weigh0_4 (by decide) (fun h9 => absurd h9 ((by decide : ¬ (1 : Int32) = 0))) (fun _ => ?_)
    refine lv_iload_n hx hb dZ_weigh0_7 rfl (lv_at hl 3 rfl) ?_
    by_cases hb0 : rk_W b
    · refine r_si (rm := ({ frames := 0, cells := 0, slots := 0, locals := 0 } : Room)) (As := [.int b]) (rest := []) (j_iw_1 l D ad cI cJ (wM p0 p1 p2 p3 p4 h r1 f1 s1 cI R F S cn th) b hb0) SC (va_cwS 1 hts gZ_weigh0_Z_isWeight rfl rfl rfl (by decide +kernel) ⟨Nat.le_of_ble_eq_true rfl, Nat.le_of_ble_eq_true rfl⟩) hP hK hD hS hA hX rfl hl.1 rfl (Nat.le_of_ble_eq_true rfl) dZ_weigh0_8 ⟨Nat.le_of_ble_eq_true rfl, Nat.le_of_ble_eq_true rfl⟩ (fun H locs hP hD hS => ?_)
      have hP : va_P D vwD (wM p0 p1 p2 p3 p4 h r1 f1 s1 cI R F S cn th) H := hP
      have hD : va_D A (wM p0 p1 p2 p3 p4 h r1 f1 s1 cI R F S cn th) := hD
      refine lv_if_eq (tgt := 18) hx hb dZ_weigh0_11 (by decide) (fun h9 => absurd h9 ((by decide : ¬ (1 : Int32) = 0))) (fun _ => ?_)
      refine lv_iconst (v := 1) hx hb dZ_weigh0_14 (by decide) ?_
      refine lv_goto (tgt := 19) hx hb dZ_weigh0_15 (by decide) ?_
      refine r_sv (rm := ({ frames := 0, cells := 0, slots := 0, locals := 0 } : Room)) (As := [.int 1]) (rest := []) (j_ch_ok l D ad cI cJ (wM p0 p1 p2 p3 p4 h r1 f1 s1 cI R F S cn th)) SC (va_cwS 1 hts gZ_weigh0_Z_check rfl rfl rfl (by decide +kernel) ⟨Nat.le_of_ble_eq_true rfl, Nat.le_of_ble_eq_true rfl⟩) hP hK hD hS hA hX rfl hl.1 rfl (Nat.le_of_ble_eq_true rfl) dZ_weigh0_19 ⟨Nat.le_of_ble_eq_true rfl, Nat.le_of_ble_eq_true rfl⟩ (fun H locs hP hD hS => ?_)
      have hP : va_P D vwD (wM p0 p1 p2 p3 p4 h r1 f1 s1 cI R F S cn th) H := hP
      have hD : va_D A (wM p0 p1 p2 p3 p4 h r1 f1 s1 cI R F S cn th) := hD
      refine lv_aload_n hx hb dZ_weigh0_22 rfl (lv_at hl 0 rfl) ?_
      refine lv_iload_n hx hb dZ_weigh0_23 rfl (lv_at hl 1 rfl) ?_
      by_cases he : rk_E ee cn
      · refine r_v (rm := ({ frames := 0, cells := 0, slots := 0, locals := 0 } : Room)) (As := [.int ee]) (rest := []) (j_th_ok l D ad cI cJ p0 p1 p2 p3 p4 h r1 f1 s1 R F S cn th ee he) SC (cwV 1 hts gZ_weigh0_Z_there rfl rfl rfl (by decide +kernel) ⟨Nat.le_of_ble_eq_true rfl, Nat.le_of_ble_eq_true rfl⟩) hP hK hD hS hA hX 5 rfl rfl rfl hl.1 rfl (Nat.le_of_ble_eq_true rfl) dZ_weigh0_24 ⟨Nat.le_of_ble_eq_true rfl, Nat.le_of_ble_eq_true rfl⟩ (fun H locs hP hD hS => ?_)
        have hP : va_P D vwD (wM p0 p1 p2 p3 p4 h r1 f1 s1 cI R F S cn th) H := hP
        have hD : va_D A (wM p0 p1 p2 p3 p4 h r1 f1 s1 cI R F S cn th) := hD
        obtain ⟨hj, hje⟩ := rk_entc hc he
        refine lv_aload_n hx hb dZ_weigh0_27 rfl (lv_at hl 0 rfl) ?_
        refine va_get (D := D) (ci := 1) (v := .ref f1) (C := RZ) (T := TZ) (N := 5) hx hb hts hu hown hK hP 5 rfl rfl 1 (by decide) hF13 (fun _ h9 => h9) rfl dZ_weigh0_28 ?_
        refine lv_iload_n hx hb dZ_weigh0_31 rfl (lv_at hl 1 rfl) ?_
        refine q_iald hx hb hK hP 7 0 rfl rfl ee.toNatClampNeg (by omega) (Nat.le_refl _) hje dZ_weigh0_32 ?_
        refine lv_istore (lv' := [(4, .int (F ee.toNatClampNeg)), (0, .ref h), (1, .int ee), (2, .int a), (3, .int b)]) hx hb dZ_weigh0_33 hl (by decide) rfl (fun ls hl => ?_)
        refine lv_aload_n hx hb dZ_weigh0_35 rfl (lv_at hl 1 rfl) ?_
        refine va_get (D := D) (ci := 1) (v := .ref f1) (C := RZ) (T := TZ) (N := 5) hx hb hts hu hown hK hP 5 rfl rfl 1 (by decide) hF13 (fun _ h9 => h9) rfl dZ_weigh0_36 ?_
        refine lv_iload_n hx hb dZ_weigh0_39 rfl (lv_at hl 2 rfl) ?_
        refine lv_iload_n hx hb dZ_weigh0_40 rfl (lv_at hl 3 rfl) ?_
        refine q_iast hx hb hK hP hD hS 7 0 rfl rfl ee.toNatClampNeg (by omega) (Nat.le_refl _) hje dZ_weigh0_41 (fun H locs hP hD hS => ?_)
        have hP : va_P D vwD (wM p0 p1 p2 p3 p4 h r1 f1 s1 cI R (upd F ee.toNatClampNeg a) S cn th) H := hP
        have hD : va_D A (wM p0 p1 p2 p3 p4 h r1 f1 s1 cI R (upd F ee.toNatClampNeg a) S cn th) := hD
        refine lv_aload_n hx hb dZ_weigh0_42 rfl (lv_at hl 1 rfl) ?_
        refine va_get (D := D) (ci := 1) (v := .ref s1) (C := RZ) (T := TZ) (N := 5) hx hb hts hu hown hK hP 5 rfl rfl 2 (by decide) hF16 (fun _ h9 => h9) rfl dZ_weigh0_43 ?_
        refine lv_iload_n hx hb dZ_weigh0_46 rfl (lv_at hl 2 rfl) ?_
        refine lv_iload_n hx hb dZ_weigh0_47 rfl (lv_at hl 4 rfl) ?_
        refine q_iast hx hb hK hP hD hS 8 0 rfl rfl ee.toNatClampNeg (by omega) (Nat.le_refl _) hje dZ_weigh0_48 (fun H locs hP hD hS => ?_)
        have hP : va_P D vwD (wM p0 p1 p2 p3 p4 h r1 f1 s1 cI R (upd F ee.toNatClampNeg a) (upd S ee.toNatClampNeg b) cn th) H := hP
        have hD : va_D A (wM p0 p1 p2 p3 p4 h r1 f1 s1 cI R (upd F ee.toNatClampNeg a) (upd S ee.toNatClampNeg b) cn th) := hD
        refine lv_iload hx hb dZ_weigh0_49 (lv_at hl 0 rfl) ?_
        exact e_t hx hb hr hlocks (rk_kW_0 ⟨ha, hb0⟩ he) hP hK hD hS dZ_weigh0_51 (Nat.le_of_ble_eq_true rfl) (Nat.le_of_ble_eq_true rfl)
      · exact r_x (rm := ({ frames := 6, cells := 1, slots := 6, locals := 100 } : Room)) (As := [.int ee]) (rest := []) (j_th_bad l D ad cI cJ p0 p1 p2 p3 p4 h r1 f1 s1 R F S cn th ee hl9 he) SC (cwV 1 hts gZ_weigh0_Z_there rfl rfl rfl (by decide +kernel) ⟨Nat.le_of_ble_eq_true rfl, Nat.le_of_ble_eq_true rfl⟩) hP hK hD hS hA hX 5 rfl rfl rfl hl.1 rfl (Nat.le_of_ble_eq_true rfl) dZ_weigh0_24 ⟨Nat.le_of_ble_eq_true rfl, Nat.le_of_ble_eq_true rfl⟩ hex hlocks (rk_kW_2 ⟨ha, hb0⟩ he).symm (Nat.le_of_ble_eq_true rfl) (Nat.le_of_ble_eq_true rfl)
    · refine r_si (rm := ({ frames := 0, cells := 0, slots := 0, locals := 0 } : Room)) (As := [.int b]) (rest := []) (j_iw_0 l D ad cI cJ (wM p0 p1 p2 p3 p4 h r1 f1 s1 cI R F S cn th) b hb0) SC (va_cwS 1 hts gZ_weigh0_Z_isWeight rfl rfl rfl (by decide +kernel) ⟨Nat.le_of_ble_eq_true rfl, Nat.le_of_ble_eq_true rfl⟩) hP hK hD hS hA hX rfl hl.1 rfl (Nat.le_of_ble_eq_true rfl) dZ_weigh0_8 ⟨Nat.le_of_ble_eq_true rfl, Nat.le_of_ble_eq_true rfl⟩ (fun H locs hP hD hS => ?_)
      have hP : va_P D vwD (wM p0 p1 p2 p3 p4 h r1 f1 s1 cI R F S cn th) H := hP
      have hD : va_D A (wM p0 p1 p2 p3 p4 h r1 f1 s1 cI R F S cn th) := hD
      refine lv_if_eq (tgt := 18) hx hb dZ_weigh0_11 (by decide) (fun _ => ?_) (fun h9 => absurd (rfl) h9)
      exact hbad (rk_kW_1 (fun q => hb0 q.2)) H locs hP hD hS ls hl
  · refine r_si (rm := ({ frames := 0, cells := 0, slots := 0, locals := 0 } : Room)) (As := [.int a]) (rest := []) (j_iw_0 l D ad cI cJ (wM p0 p1 p2 p3 p4 h r1 f1 s1 cI R F S cn th) a ha) SC (va_cwS 1 hts gZ_weigh0_Z_isWeight rfl rfl rfl (by decide +kernel) ⟨Nat.le_of_ble_eq_true rfl, Nat.le_of_ble_eq_true rfl⟩) hP hK hD hS hA hX rfl hl.1 rfl (Nat.le_of_ble_eq_true rfl) dZ_weigh0_1 ⟨Nat.le_of_ble_eq_true rfl, Nat.le_of_ble_eq_true rfl⟩ (fun H locs hP hD hS => ?_)
    have hP : va_P D vwD (wM p0 p1 p2 p3 p4 h r1 f1 s1 cI R F S cn th) H := hP
    have hD : va_D A (wM p0 p1 p2 p3 p4 h r1 f1 s1 cI R F S cn th) := hD
    refine lv_if_eq (tgt := 18) hx hb dZ_weigh0_4 (by decide) (fun _ => ?_) (fun h9 => absurd (rfl) h9)
    exact hbad (rk_kW_1 (fun q => ha q.1)) H locs hP hD hS ls hl
