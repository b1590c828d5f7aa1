/-! The law's wrappers -/
set_option maxHeartbeats 4000000 in
set_option maxRecDepth 100000 in
theorem w_behind_ok (l : Launch) (D : va_G) (ad : Nat → Nat) (cI cJ : ClassId) (tt : va_W) (h r1 f1 s1 o : Nat) (R F S : Nat → Int32) (cn : Nat) (g : Nat → Int64) (ee n a b : Int32) (hl9 : l.stackTraces = false) (hR : rk_ok R cn) (hk : rk_kB ee n a b cn = 0) : uI l yL_behind wsL_behind ({ frames := 9, cells := 1, slots := 6, locals := 200 } : Room) D ad [(cI, .int), (cJ, .long)] [.ref h, .int ee, .int n, .int a, .int b, .ref o] (wX h r1 f1 s1 cI R F S cn ((o, .inl (cJ, 1, .inr (.inl g))) :: tt)) (wX h r1 f1 s1 cI (rk_in R cn (rk_pb R ee cn) n.toNatClampNeg) (rk_fl F cn n.toNatClampNeg a) (rk_fl S cn n.toNatClampNeg b) (cn + n.toNatClampNeg) ((o, .inl (cJ, 1, .inr (.inl (vp_updL g 0 ((nI (cn + n.toNatClampNeg) - 1).toInt64))))) :: tt)) (0) 1 6 := by
  unfold uI
  refine st_W (Qc := qI D [(cI, .int), (cJ, .long)] (wX h r1 f1 s1 cI (rk_in R cn (rk_pb R ee cn) n.toNatClampNeg) (rk_fl F cn n.toNatClampNeg a) (rk_fl S cn n.toNatClampNeg b) (cn + n.toNatClampNeg) ((o, .inl (cJ, 1, .inr (.inl (vp_updL g 0 ((nI (cn + n.toNatClampNeg) - 1).toInt64))))) :: tt)) 0) (hh := [(0, 14, 17, 13), (0, 14, 21, 15), (0, 14, 25, 17)]) (mc := 1) (ms := 6) (cc := cL_behind) (maxL := 7) (ret := (some .int)) [.ref h, .int ee, .int n, .int a, .int b, .ref o] (by decide) rfl (Nat.le_of_ble_eq_true rfl) (fun p en s m below meth c A ls hTab hx hb hr hlocks hml hts hown hA hS hP hK hD hX hl => ?_)
  have hown : s.vm.findClass RL = some m.cls := hown
  have hl : lv_has ls 7 [(0, .ref h), (1, .int ee), (2, .int n), (3, .int a), (4, .int b), (5, .ref o)] := hl
  have SC : CallFix p m c cL_behind 7 s ([.ref h, .int ee, .int n, .int a, .int b, .ref o] : List Value).toArray wsL_behind RL := ⟨hx, hb, hml, hown, hts⟩
  refine lv_aload hx hb dL_behind_0 (lv_at hl 5 rfl) ?_
  refine lv_iconst (v := 0) hx hb dL_behind_2 (by decide) ?_
  refine lv_aload_n hx hb dL_behind_3 rfl (lv_at hl 0 rfl) ?_
  refine lv_iload_n hx hb dL_behind_4 rfl (lv_at hl 1 rfl) ?_
  refine lv_iload_n hx hb dL_behind_5 rfl (lv_at hl 2 rfl) ?_
  refine lv_iload_n hx hb dL_behind_6 rfl (lv_at hl 3 rfl) ?_
  refine lv_iload hx hb dL_behind_7 (lv_at hl 4 rfl) ?_
  refine r_c (rm := ({ frames := 8, cells := 1, slots := 6, locals := 160 } : Room)) (As := [.int ee, .int n, .int a, .int b]) (rest := [.int 0, .ref o]) (m_behind l D ad cI cJ ((o, .inl (cJ, 1, .inr (.inl g))) :: tt) h r1 f1 s1 R F S cn ee n a b hl9 hR) SC (cwV 4 hts gL_behind_X0_behind rfl rfl rfl (by decide +kernel) ⟨Nat.le_of_ble_eq_true rfl, Nat.le_of_ble_eq_true rfl⟩) hP hK hD hS hA hX 0 rfl rfl rfl hl.1 rfl (Nat.le_of_ble_eq_true rfl) dL_behind_9 ⟨Nat.le_of_ble_eq_true rfl, Nat.le_of_ble_eq_true rfl⟩ (fun E ce q9 H locs hk0 _ _ _ _ _ _ _ => absurd hk hk0) (fun H locs _ hP hD hS => ?_)
  have hP : va_P D vwD (wX h r1 f1 s1 cI (rk_in R cn (rk_pb R ee cn) n.toNatClampNeg) (rk_fl F cn n.toNatClampNeg a) (rk_fl S cn n.toNatClampNeg b) (cn + n.toNatClampNeg) ((o, .inl (cJ, 1, .inr (.inl g))) :: tt)) H := hP
  have hD : va_D A (wX h r1 f1 s1 cI (rk_in R cn (rk_pb R ee cn) n.toNatClampNeg) (rk_fl F cn n.toNatClampNeg a) (rk_fl S cn n.toNatClampNeg b) (cn + n.toNatClampNeg) ((o, .inl (cJ, 1, .inr (.inl g))) :: tt)) := hD
  refine lv_i2l hx hb dL_behind_12 rfl ?_
  refine va_last hx hb hK hP hD hS 4 1 rfl rfl (vp_in_nI (n := 0) (N := 1) (by decide) (by decide)) dL_behind_13 (fun H locs hP hD hS => ?_)
  rw [sb_cl0] at hP hD
  have hP : va_P D vwD (wX h r1 f1 s1 cI (rk_in R cn (rk_pb R ee cn) n.toNatClampNeg) (rk_fl F cn n.toNatClampNeg a) (rk_fl S cn n.toNatClampNeg b) (cn + n.toNatClampNeg) ((o, .inl (cJ, 1, .inr (.inl (vp_updL g 0 (((nI (cn + n.toNatClampNeg) - 1)).toInt64))))) :: tt)) H := hP
  have hD : va_D A (wX h r1 f1 s1 cI (rk_in R cn (rk_pb R ee cn) n.toNatClampNeg) (rk_fl F cn n.toNatClampNeg a) (rk_fl S cn n.toNatClampNeg b) (cn + n.toNatClampNeg) ((o, .inl (cJ, 1, .inr (.inl (vp_updL g 0 (((nI (cn + n.toNatClampNeg) - 1)).toInt64))))) :: tt)) := hD
  refine lv_goto (tgt := 29) hx hb dL_behind_14 (by decide) ?_
  refine lv_iconst (v := 0) hx hb dL_behind_29 (by decide) ?_
  exact e_i hx hb hr hlocks hP hK hD hS dL_behind_30 (Nat.le_of_ble_eq_true rfl) (Nat.le_of_ble_eq_true rfl)
set_option maxHeartbeats 4000000 in
set_option maxRecDepth 100000 in
theorem w_behind_bad (l : Launch) (D : va_G) (ad : Nat → Nat) (cI cJ : ClassId) (tt : va_W) (h r1 f1 s1 o : Nat) (R F S : Nat → Int32) (cn : Nat) (g : Nat → Int64) (ee n a b : Int32) (hl9 : l.stackTraces = false) (hR : rk_ok R cn) (hk : rk_kB ee n a b cn ≠ 0) : uI l yL_behind wsL_behind ({ frames := 9, cells := 1, slots := 6, locals := 200 } : Room) D ad [(cI, .int), (cJ, .long)] [.ref h, .int ee, .int n, .int a, .int b, .ref o] (wX h r1 f1 s1 cI R F S cn ((o, .inl (cJ, 1, .inr (.inl g))) :: tt)) (wX h r1 f1 s1 cI R F S cn ((o, .inl (cJ, 1, .inr (.inl g))) :: tt)) (nI (rk_kB ee n a b cn)) 1 6 := by
  unfold uI
  refine st_W (Qc := qI D [(cI, .int), (cJ, .long)] (wX h r1 f1 s1 cI R F S cn ((o, .inl (cJ, 1, .inr (.inl g))) :: tt)) (nI (rk_kB ee n a b cn))) (hh := [(0, 14, 17, 13), (0, 14, 21, 15), (0, 14, 25, 17)]) (mc := 1) (ms := 6) (cc := cL_behind) (maxL := 7) (ret := (some .int)) [.ref h, .int ee, .int n, .int a, .int b, .ref o] (by decide) rfl (Nat.le_of_ble_eq_true rfl) (fun p en s m below meth c A ls hTab hx hb hr hlocks hml hts hown hA hS hP hK hD hX hl => ?_)
  have hown : s.vm.findClass RL = some m.cls := hown
  have hl : lv_has ls 7 [(0, .ref h), (1, .int ee), (2, .int n), (3, .int a), (4, .int b), (5, .ref o)] := hl
  have SC : CallFix p m c cL_behind 7 s ([.ref h, .int ee, .int n, .int a, .int b, .ref o] : List Value).toArray wsL_behind RL := ⟨hx, hb, hml, hown, hts⟩
  refine lv_aload hx hb dL_behind_0 (lv_at hl 5 rfl) ?_
  refine lv_iconst (v := 0) hx hb dL_behind_2 (by decide) ?_
  refine lv_aload_n hx hb dL_behind_3 rfl (lv_at hl 0 rfl) ?_
  refine lv_iload_n hx hb dL_behind_4 rfl (lv_at hl 1 rfl) ?_
  refine lv_iload_n hx hb dL_behind_5 rfl (lv_at hl 2 rfl) ?_
  refine lv_iload_n hx hb dL_behind_6 rfl (lv_at hl 3 rfl) ?_
  refine lv_iload hx hb dL_behind_7 (lv_at hl 4 rfl) ?_
  refine r_c (rm := ({ frames := 8, cells := 1, slots := 6, locals := 160 } : Room)) (As := [.int ee, .int n, .int a, .int b]) (rest := [.int 0, .ref o]) (m_behind l D ad cI cJ ((o, .inl (cJ, 1, .inr (.inl g))) :: tt) h r1 f1 s1 R F S cn ee n a b hl9 hR) SC (cwV 4 hts gL_behind_X0_behind rfl rfl rfl (by decide +kernel) ⟨Nat.le_of_ble_eq_true rfl, Nat.le_of_ble_eq_true rfl⟩) hP hK hD hS hA hX 0 rfl rfl rfl hl.1 rfl (Nat.le_of_ble_eq_true rfl) dL_behind_9 ⟨Nat.le_of_ble_eq_true rfl, Nat.le_of_ble_eq_true rfl⟩ (fun E ce q9 H locs _ hE hP hD hS hce hcv hcl => ?_) (fun H locs hk0 _ _ _ => absurd hk0 hk)
  rcases rk_kB_r ee n a b cn with h9 | h9 | h9 | h9
  · exact absurd h9 hk
  · have hE : E = "java/lang/IllegalArgumentException" := by rw [hE, h9]; rfl
    subst hE
    refine vx_catch (own := RL) (name := "java/lang/IllegalArgumentException") (E := "java/lang/IllegalArgumentException") hown [] ⟨0, 14, 17, 13⟩ [⟨0, 14, 21, 15⟩, ⟨0, 14, 25, 17⟩] (by rw [hTab]; rfl) (fun z hz => nomatch hz) (by decide) (by decide) (hts (.classLink RL 13 "java/lang/IllegalArgumentException") (by decide +kernel)) (va_Nw.use rfl (hX.2.1 _ (List.mem_of_getElem? (i := 0) rfl))) hce hcv hcl ?_
    refine lv_astore (lv' := [(6, .ref q9), (0, .ref h), (1, .int ee), (2, .int n), (3, .int a), (4, .int b), (5, .ref o)]) hx hb dL_behind_17 hl (by decide) rfl (fun ls hl => ?_)
    refine lv_iconst (v := 1) hx hb dL_behind_19 (by decide) ?_
    refine q_top (nI (rk_kB ee n a b cn)) (by rw [h9]; rfl) ?_
    exact e_i hx hb hr hlocks hP hK hD hS dL_behind_20 (Nat.le_of_ble_eq_true rfl) (Nat.le_of_ble_eq_true rfl)
  · have hE : E = "java/util/NoSuchElementException" := by rw [hE, h9]; rfl
    subst hE
    refine vx_catch (own := RL) (name := "java/util/NoSuchElementException") (E := "java/util/NoSuchElementException") hown [⟨0, 14, 17, 13⟩] ⟨0, 14, 21, 15⟩ [⟨0, 14, 25, 17⟩] (by rw [hTab]; rfl) (by
        intro z hz
        rcases List.mem_cons.mp hz with rfl | hz
        · exact Or.inr ⟨by decide, "java/lang/IllegalArgumentException", hts (.classLink RL 13 "java/lang/IllegalArgumentException") (by decide +kernel), hX.2.2.2.1.1⟩
        cases hz) (by decide) (by decide) (hts (.classLink RL 15 "java/util/NoSuchElementException") (by decide +kernel)) (va_Nw.use rfl (hX.2.1 _ (List.mem_of_getElem? (i := 1) rfl))) hce hcv hcl ?_
    refine lv_astore (lv' := [(6, .ref q9), (0, .ref h), (1, .int ee), (2, .int n), (3, .int a), (4, .int b), (5, .ref o)]) hx hb dL_behind_21 hl (by decide) rfl (fun ls hl => ?_)
    refine lv_iconst (v := 2) hx hb dL_behind_23 (by decide) ?_
    refine q_top (nI (rk_kB ee n a b cn)) (by rw [h9]; rfl) ?_
    exact e_i hx hb hr hlocks hP hK hD hS dL_behind_24 (Nat.le_of_ble_eq_true rfl) (Nat.le_of_ble_eq_true rfl)
  · have hE : E = "java/lang/IllegalStateException" := by rw [hE, h9]; rfl
    subst hE
    refine vx_catch (own := RL) (name := "java/lang/IllegalStateException") (E := "java/lang/IllegalStateException") hown [⟨0, 14, 17, 13⟩, ⟨0, 14, 21, 15⟩] ⟨0, 14, 25, 17⟩ [] (by rw [hTab]; rfl) (by
        intro z hz
        rcases List.mem_cons.mp hz with rfl | hz
        · exact Or.inr ⟨by decide, "java/lang/IllegalArgumentException", hts (.classLink RL 13 "java/lang/IllegalArgumentException") (by decide +kernel), hX.2.2.2.1.2.1⟩
        rcases List.mem_cons.mp hz with rfl | hz
        · exact Or.inr ⟨by decide, "java/util/NoSuchElementException", hts (.classLink RL 15 "java/util/NoSuchElementException") (by decide +kernel), hX.2.2.2.1.2.2⟩
        cases hz) (by decide) (by decide) (hts (.classLink RL 17 "java/lang/IllegalStateException") (by decide +kernel)) (va_Nw.use rfl (hX.2.1 _ (List.mem_of_getElem? (i := 2) rfl))) hce hcv hcl ?_
    refine lv_astore (lv' := [(6, .ref q9), (0, .ref h), (1, .int ee), (2, .int n), (3, .int a), (4, .int b), (5, .ref o)]) hx hb dL_behind_25 hl (by decide) rfl (fun ls hl => ?_)
    refine lv_iconst (v := 3) hx hb dL_behind_27 (by decide) ?_
    refine q_top (nI (rk_kB ee n a b cn)) (by rw [h9]; rfl) ?_
    exact e_i hx hb hr hlocks hP hK hD hS dL_behind_28 (Nat.le_of_ble_eq_true rfl) (Nat.le_of_ble_eq_true rfl)
set_option maxHeartbeats 4000000 in
set_option maxRecDepth 100000 in
theorem w_before_ok (l : Launch) (D : va_G) (ad : Nat → Nat) (cI cJ : ClassId) (tt : va_W) (h r1 f1 s1 o : Nat) (R F S : Nat → Int32) (cn : Nat) (g : Nat → Int64) (ee a b : Int32) (hl9 : l.stackTraces = false) (hR : rk_ok R cn) (hk : rk_kF ee a b cn = 0) : uI l yL_before wsL_before ({ frames := 9, cells := 1, slots := 6, locals := 200 } : Room) D ad [(cI, .int), (cJ, .long)] [.ref h, .int ee, .int a, .int b, .ref o] (wX h r1 f1 s1 cI R F S cn ((o, .inl (cJ, 1, .inr (.inl g))) :: tt)) (wX h r1 f1 s1 cI (rk_in R cn (rk_pl R ee cn) 1) (rk_fl F cn 1 a) (rk_fl S cn 1 b) (cn + 1) ((o, .inl (cJ, 1, .inr (.inl (vp_updL g 0 ((nI (cn + 1) - 1).toInt64))))) :: tt)) (0) 1 6 := by
  unfold uI
  refine st_W (Qc := qI D [(cI, .int), (cJ, .long)] (wX h r1 f1 s1 cI (rk_in R cn (rk_pl R ee cn) 1) (rk_fl F cn 1 a) (rk_fl S cn 1 b) (cn + 1) ((o, .inl (cJ, 1, .inr (.inl (vp_updL g 0 ((nI (cn + 1) - 1).toInt64))))) :: tt)) 0) (hh := [(0, 12, 15, 13), (0, 12, 19, 15), (0, 12, 23, 17)]) (mc := 1) (ms := 6) (cc := cL_before) (maxL := 6) (ret := (some .int)) [.ref h, .int ee, .int a, .int b, .ref o] (by decide) rfl (Nat.le_of_ble_eq_true rfl) (fun p en s m below meth c A ls hTab hx hb hr hlocks hml hts hown hA hS hP hK hD hX hl => ?_)
  have hown : s.vm.findClass RL = some m.cls := hown
  have hl : lv_has ls 6 [(0, .ref h), (1, .int ee), (2, .int a), (3, .int b), (4, .ref o)] := hl
  have SC : CallFix p m c cL_before 6 s ([.ref h, .int ee, .int a, .int b, .ref o] : List Value).toArray wsL_before RL := ⟨hx, hb, hml, hown, hts⟩
  refine lv_aload hx hb dL_before_0 (lv_at hl 4 rfl) ?_
  refine lv_iconst (v := 0) hx hb dL_before_2 (by decide) ?_
  refine lv_aload_n hx hb dL_before_3 rfl (lv_at hl 0 rfl) ?_
  refine lv_iload_n hx hb dL_before_4 rfl (lv_at hl 1 rfl) ?_
  refine lv_iload_n hx hb dL_before_5 rfl (lv_at hl 2 rfl) ?_
  refine lv_iload_n hx hb dL_before_6 rfl (lv_at hl 3 rfl) ?_
  refine r_c (rm := ({ frames := 8, cells := 1, slots := 6, locals := 160 } : Room)) (As := [.int ee, .int a, .int b]) (rest := [.int 0, .ref o]) (m_before l D ad cI cJ ((o, .inl (cJ, 1, .inr (.inl g))) :: tt) h r1 f1 s1 R F S cn ee a b hl9 hR) SC (cwV 3 hts gL_before_X0_before rfl rfl rfl (by decide +kernel) ⟨Nat.le_of_ble_eq_true rfl, Nat.le_of_ble_eq_true rfl⟩) hP hK hD hS hA hX 0 rfl rfl rfl hl.1 rfl (Nat.le_of_ble_eq_true rfl) dL_before_7 ⟨Nat.le_of_ble_eq_true rfl, Nat.le_of_ble_eq_true rfl⟩ (fun E ce q9 H locs hk0 _ _ _ _ _ _ _ => absurd hk hk0) (fun H locs _ hP hD hS => ?_)
  have hP : va_P D vwD (wX h r1 f1 s1 cI (rk_in R cn (rk_pl R ee cn) 1) (rk_fl F cn 1 a) (rk_fl S cn 1 b) (cn + 1) ((o, .inl (cJ, 1, .inr (.inl g))) :: tt)) H := hP
  have hD : va_D A (wX h r1 f1 s1 cI (rk_in R cn (rk_pl R ee cn) 1) (rk_fl F cn 1 a) (rk_fl S cn 1 b) (cn + 1) ((o, .inl (cJ, 1, .inr (.inl g))) :: tt)) := hD
  refine lv_i2l hx hb dL_before_10 rfl ?_
  refine va_last hx hb hK hP hD hS 4 1 rfl rfl (vp_in_nI (n := 0) (N := 1) (by decide) (by decide)) dL_before_11 (fun H locs hP hD hS => ?_)
  rw [sb_cl0] at hP hD
  have hP : va_P D vwD (wX h r1 f1 s1 cI (rk_in R cn (rk_pl R ee cn) 1) (rk_fl F cn 1 a) (rk_fl S cn 1 b) (cn + 1) ((o, .inl (cJ, 1, .inr (.inl (vp_updL g 0 (((nI (cn + 1) - 1)).toInt64))))) :: tt)) H := hP
  have hD : va_D A (wX h r1 f1 s1 cI (rk_in R cn (rk_pl R ee cn) 1) (rk_fl F cn 1 a) (rk_fl S cn 1 b) (cn + 1) ((o, .inl (cJ, 1, .inr (.inl (vp_updL g 0 (((nI (cn + 1) - 1)).toInt64))))) :: tt)) := hD
  refine lv_goto (tgt := 27) hx hb dL_before_12 (by decide) ?_
  refine lv_iconst (v := 0) hx hb dL_before_27 (by decide) ?_
  exact e_i hx hb hr hlocks hP hK hD hS dL_before_28 (Nat.le_of_ble_eq_true rfl) (Nat.le_of_ble_eq_true rfl)
set_option maxHeartbeats 4000000 in
set_option maxRecDepth 100000 in
theorem w_before_bad (l : Launch) (D : va_G) (ad : Nat → Nat) (cI cJ : ClassId) (tt : va_W) (h r1 f1 s1 o : Nat) (R F S : Nat → Int32) (cn : Nat) (g : Nat → Int64) (ee a b : Int32) (hl9 : l.stackTraces = false) (hR : rk_ok R cn) (hk : rk_kF ee a b cn ≠ 0) : uI l yL_before wsL_before ({ frames := 9, cells := 1, slots := 6, locals := 200 } : Room) D ad [(cI, .int), (cJ, .long)] [.ref h, .int ee, .int a, .int b, .ref o] (wX h r1 f1 s1 cI R F S cn ((o, .inl (cJ, 1, .inr (.inl g))) :: tt)) (wX h r1 f1 s1 cI R F S cn ((o, .inl (cJ, 1, .inr (.inl g))) :: tt)) (nI (rk_kF ee a b cn)) 1 6 := by
  unfold uI
  refine st_W (Qc := qI D [(cI, .int), (cJ, .long)] (wX h r1 f1 s1 cI R F S cn ((o, .inl (cJ, 1, .inr (.inl g))) :: tt)) (nI (rk_kF ee a b cn))) (hh := [(0, 12, 15, 13), (0, 12, 19, 15), (0, 12, 23, 17)]) (mc := 1) (ms := 6) (cc := cL_before) (maxL := 6) (ret := (some .int)) [.ref h, .int ee, .int a, .int b, .ref o] (by decide) rfl (Nat.le_of_ble_eq_true rfl) (fun p en s m below meth c A ls hTab hx hb hr hlocks hml hts hown hA hS hP hK hD hX hl => ?_)
  have hown : s.vm.findClass RL = some m.cls := hown
  have hl : lv_has ls 6 [(0, .ref h), (1, .int ee), (2, .int a), (3, .int b), (4, .ref o)] := hl
  have SC : CallFix p m c cL_before 6 s ([.ref h, .int ee, .int a, .int b, .ref o] : List Value).toArray wsL_before RL := ⟨hx, hb, hml, hown, hts⟩
  refine lv_aload hx hb dL_before_0 (lv_at hl 4 rfl) ?_
  refine lv_iconst (v := 0) hx hb dL_before_2 (by decide) ?_
  refine lv_aload_n hx hb dL_before_3 rfl (lv_at hl 0 rfl) ?_
  refine lv_iload_n hx hb dL_before_4 rfl (lv_at hl 1 rfl) ?_
  refine lv_iload_n hx hb dL_before_5 rfl (lv_at hl 2 rfl) ?_
  refine lv_iload_n hx hb dL_before_6 rfl (lv_at hl 3 rfl) ?_
  refine r_c (rm := ({ frames := 8, cells := 1, slots := 6, locals := 160 } : Room)) (As := [.int ee, .int a, .int b]) (rest := [.int 0, .ref o]) (m_before l D ad cI cJ ((o, .inl (cJ, 1, .inr (.inl g))) :: tt) h r1 f1 s1 R F S cn ee a b hl9 hR) SC (cwV 3 hts gL_before_X0_before rfl rfl rfl (by decide +kernel) ⟨Nat.le_of_ble_eq_true rfl, Nat.le_of_ble_eq_true rfl⟩) hP hK hD hS hA hX 0 rfl rfl rfl hl.1 rfl (Nat.le_of_ble_eq_true rfl) dL_before_7 ⟨Nat.le_of_ble_eq_true rfl, Nat.le_of_ble_eq_true rfl⟩ (fun E ce q9 H locs _ hE hP hD hS hce hcv hcl => ?_) (fun H locs hk0 _ _ _ => absurd hk0 hk)
  rcases rk_kF_r ee a b cn with h9 | h9 | h9 | h9
  · exact absurd h9 hk
  · have hE : E = "java/lang/IllegalArgumentException" := by rw [hE, h9]; rfl
    subst hE
    refine vx_catch (own := RL) (name := "java/lang/IllegalArgumentException") (E := "java/lang/IllegalArgumentException") hown [] ⟨0, 12, 15, 13⟩ [⟨0, 12, 19, 15⟩, ⟨0, 12, 23, 17⟩] (by rw [hTab]; rfl) (fun z hz => nomatch hz) (by decide) (by decide) (hts (.classLink RL 13 "java/lang/IllegalArgumentException") (by decide +kernel)) (va_Nw.use rfl (hX.2.1 _ (List.mem_of_getElem? (i := 0) rfl))) hce hcv hcl ?_
    refine lv_astore (lv' := [(5, .ref q9), (0, .ref h), (1, .int ee), (2, .int a), (3, .int b), (4, .ref o)]) hx hb dL_before_15 hl (by decide) rfl (fun ls hl => ?_)
    refine lv_iconst (v := 1) hx hb dL_before_17 (by decide) ?_
    refine q_top (nI (rk_kF ee a b cn)) (by rw [h9]; rfl) ?_
    exact e_i hx hb hr hlocks hP hK hD hS dL_before_18 (Nat.le_of_ble_eq_true rfl) (Nat.le_of_ble_eq_true rfl)
  · have hE : E = "java/util/NoSuchElementException" := by rw [hE, h9]; rfl
    subst hE
    refine vx_catch (own := RL) (name := "java/util/NoSuchElementException") (E := "java/util/NoSuchElementException") hown [⟨0, 12, 15, 13⟩] ⟨0, 12, 19, 15⟩ [⟨0, 12, 23, 17⟩] (by rw [hTab]; rfl) (by
        intro z hz
        rcases List.mem_cons.mp hz with rfl | hz
        · exact Or.inr ⟨by decide, "java/lang/IllegalArgumentException", hts (.classLink RL 13 "java/lang/IllegalArgumentException") (by decide +kernel), hX.2.2.2.1.1⟩
        cases hz) (by decide) (by decide) (hts (.classLink RL 15 "java/util/NoSuchElementException") (by decide +kernel)) (va_Nw.use rfl (hX.2.1 _ (List.mem_of_getElem? (i := 1) rfl))) hce hcv hcl ?_
    refine lv_astore (lv' := [(5, .ref q9), (0, .ref h), (1, .int ee), (2, .int a), (3, .int b), (4, .ref o)]) hx hb dL_before_19 hl (by decide) rfl (fun ls hl => ?_)
    refine lv_iconst (v := 2) hx hb dL_before_21 (by decide) ?_
    refine q_top (nI (rk_kF ee a b cn)) (by rw [h9]; rfl) ?_
    exact e_i hx hb hr hlocks hP hK hD hS dL_before_22 (Nat.le_of_ble_eq_true rfl) (Nat.le_of_ble_eq_true rfl)
  · have hE : E = "java/lang/IllegalStateException" := by rw [hE, h9]; rfl
    subst hE
    refine vx_catch (own := RL) (name := "java/lang/IllegalStateException") (E := "java/lang/IllegalStateException") hown [⟨0, 12, 15, 13⟩, ⟨0, 12, 19, 15⟩] ⟨0, 12, 23, 17⟩ [] (by rw [hTab]; rfl) (by
        intro z hz
        rcases List.mem_cons.mp hz with rfl | hz
        · exact Or.inr ⟨by decide, "java/lang/IllegalArgumentException", hts (.classLink RL 13 "java/lang/IllegalArgumentException") (by decide +kernel), hX.2.2.2.1.2.1⟩
        rcases List.mem_cons.mp hz with rfl | hz
        · exact Or.inr ⟨by decide, "java/util/NoSuchElementException", hts (.classLink RL 15 "java/util/NoSuchElementException") (by decide +kernel), hX.2.2.2.1.2.2⟩
        cases hz) (by decide) (by decide) (hts (.classLink RL 17 "java/lang/IllegalStateException") (by decide +kernel)) (va_Nw.use rfl (hX.2.1 _ (List.mem_of_getElem? (i := 2) rfl))) hce hcv hcl ?_
    refine lv_astore (lv' := [(5, .ref q9), (0, .ref h), (1, .int ee), (2, .int a), (3, .int b), (4, .ref o)]) hx hb dL_before_23 hl (by decide) rfl (fun ls hl => ?_)
    refine lv_iconst (v := 3) hx hb dL_before_25 (by decide) ?_
    refine q_top (nI (rk_kF ee a b cn)) (by rw [h9]; rfl) ?_
    exact e_i hx hb hr hlocks hP hK hD hS dL_before_26 (Nat.le_of_ble_eq_true rfl) (Nat.le_of_ble_eq_true rfl)
set_option maxHeartbeats 4000000 in
set_option maxRecDepth 100000 in
theorem w_weigh_ok (l : Launch) (D : va_G) (ad : Nat → Nat) (cI cJ : ClassId) (tt : va_W) (h r1 f1 s1 o : Nat) (R F S : Nat → Int32) (cn : Nat) (g : Nat → Int64) (ee a b : Int32) (hl9 : l.stackTraces = false) (hR : rk_ok R cn) (hk : rk_kW ee a b cn = 0) : uI l yL_weigh wsL_weigh ({ frames := 9, cells := 1, slots := 6, locals := 200 } : Room) D ad [(cI, .int), (cJ, .long)] [.ref h, .int ee, .int a, .int b, .ref o] (wX h r1 f1 s1 cI R F S cn ((o, .inl (cJ, 1, .inr (.inl g))) :: tt)) (wX h r1 f1 s1 cI R (upd F ee.toNatClampNeg a) (upd S ee.toNatClampNeg b) cn ((o, .inl (cJ, 1, .inr (.inl (vp_updL g 0 ((F ee.toNatClampNeg).toInt64))))) :: tt)) (0) 1 6 := by
  unfold uI
  refine st_W (Qc := qI D [(cI, .int), (cJ, .long)] (wX h r1 f1 s1 cI R (upd F ee.toNatClampNeg a) (upd S ee.toNatClampNeg b) cn ((o, .inl (cJ, 1, .inr (.inl (vp_updL g 0 ((F ee.toNatClampNeg).toInt64))))) :: tt)) 0) (hh := [(0, 12, 15, 13), (0, 12, 19, 15)]) (mc := 1) (ms := 6) (cc := cL_weigh) (maxL := 6) (ret := (some .int)) [.ref h, .int ee, .int a, .int b, .ref o] (by decide) rfl (Nat.le_of_ble_eq_true rfl) (fun p en s m below meth c A ls hTab hx hb hr hlocks hml hts hown hA hS hP hK hD hX hl => ?_)
  have hown : s.vm.findClass RL = some m.cls := hown
  have hl : lv_has ls 6 [(0, .ref h), (1, .int ee), (2, .int a), (3, .int b), (4, .ref o)] := hl
  have SC : CallFix p m c cL_weigh 6 s ([.ref h, .int ee, .int a, .int b, .ref o] : List Value).toArray wsL_weigh RL := ⟨hx, hb, hml, hown, hts⟩
  refine lv_aload hx hb dL_weigh_0 (lv_at hl 4 rfl) ?_
  refine lv_iconst (v := 0) hx hb dL_weigh_2 (by decide) ?_
  refine lv_aload_n hx hb dL_weigh_3 rfl (lv_at hl 0 rfl) ?_
  refine lv_iload_n hx hb dL_weigh_4 rfl (lv_at hl 1 rfl) ?_
  refine lv_iload_n hx hb dL_weigh_5 rfl (lv_at hl 2 rfl) ?_
  refine lv_iload_n hx hb dL_weigh_6 rfl (lv_at hl 3 rfl) ?_
  refine r_c (rm := ({ frames := 8, cells := 1, slots := 6, locals := 160 } : Room)) (As := [.int ee, .int a, .int b]) (rest := [.int 0, .ref o]) (m_weigh l D ad cI cJ ((o, .inl (cJ, 1, .inr (.inl g))) :: tt) h r1 f1 s1 R F S cn ee a b hl9 hR) SC (cwV 3 hts gL_weigh_X0_weigh rfl rfl rfl (by decide +kernel) ⟨Nat.le_of_ble_eq_true rfl, Nat.le_of_ble_eq_true rfl⟩) hP hK hD hS hA hX 0 rfl rfl rfl hl.1 rfl (Nat.le_of_ble_eq_true rfl) dL_weigh_7 ⟨Nat.le_of_ble_eq_true rfl, Nat.le_of_ble_eq_true rfl⟩ (fun E ce q9 H locs hk0 _ _ _ _ _ _ _ => absurd hk hk0) (fun H locs _ hP hD hS => ?_)
  have hP : va_P D vwD (wX h r1 f1 s1 cI R (upd F ee.toNatClampNeg a) (upd S ee.toNatClampNeg b) cn ((o, .inl (cJ, 1, .inr (.inl g))) :: tt)) H := hP
  have hD : va_D A (wX h r1 f1 s1 cI R (upd F ee.toNatClampNeg a) (upd S ee.toNatClampNeg b) cn ((o, .inl (cJ, 1, .inr (.inl g))) :: tt)) := hD
  refine lv_i2l hx hb dL_weigh_10 rfl ?_
  refine va_last hx hb hK hP hD hS 4 1 rfl rfl (vp_in_nI (n := 0) (N := 1) (by decide) (by decide)) dL_weigh_11 (fun H locs hP hD hS => ?_)
  rw [sb_cl0] at hP hD
  have hP : va_P D vwD (wX h r1 f1 s1 cI R (upd F ee.toNatClampNeg a) (upd S ee.toNatClampNeg b) cn ((o, .inl (cJ, 1, .inr (.inl (vp_updL g 0 (((F ee.toNatClampNeg)).toInt64))))) :: tt)) H := hP
  have hD : va_D A (wX h r1 f1 s1 cI R (upd F ee.toNatClampNeg a) (upd S ee.toNatClampNeg b) cn ((o, .inl (cJ, 1, .inr (.inl (vp_updL g 0 (((F ee.toNatClampNeg)).toInt64))))) :: tt)) := hD
  refine lv_goto (tgt := 23) hx hb dL_weigh_12 (by decide) ?_
  refine lv_iconst (v := 0) hx hb dL_weigh_23 (by decide) ?_
  exact e_i hx hb hr hlocks hP hK hD hS dL_weigh_24 (Nat.le_of_ble_eq_true rfl) (Nat.le_of_ble_eq_true rfl)
set_option maxHeartbeats 4000000 in
set_option maxRecDepth 100000 in
theorem w_weigh_bad (l : Launch) (D : va_G) (ad : Nat → Nat) (cI cJ : ClassId) (tt : va_W) (h r1 f1 s1 o : Nat) (R F S : Nat → Int32) (cn : Nat) (g : Nat → Int64) (ee a b : Int32) (hl9 : l.stackTraces = false) (hR : rk_ok R cn) (hk : rk_kW ee a b cn ≠ 0) : uI l yL_weigh wsL_weigh ({ frames := 9, cells := 1, slots := 6, locals := 200 } : Room) D ad [(cI, .int), (cJ, .long)] [.ref h, .int ee, .int a, .int b, .ref o] (wX h r1 f1 s1 cI R F S cn ((o, .inl (cJ, 1, .inr (.inl g))) :: tt)) (wX h r1 f1 s1 cI R F S cn ((o, .inl (cJ, 1, .inr (.inl g))) :: tt)) (nI (rk_kW ee a b cn)) 1 6 := by
  unfold uI
  refine st_W (Qc := qI D [(cI, .int), (cJ, .long)] (wX h r1 f1 s1 cI R F S cn ((o, .inl (cJ, 1, .inr (.inl g))) :: tt)) (nI (rk_kW ee a b cn))) (hh := [(0, 12, 15, 13), (0, 12, 19, 15)]) (mc := 1) (ms := 6) (cc := cL_weigh) (maxL := 6) (ret := (some .int)) [.ref h, .int ee, .int a, .int b, .ref o] (by decide) rfl (Nat.le_of_ble_eq_true rfl) (fun p en s m below meth c A ls hTab hx hb hr hlocks hml hts hown hA hS hP hK hD hX hl => ?_)
  have hown : s.vm.findClass RL = some m.cls := hown
  have hl : lv_has ls 6 [(0, .ref h), (1, .int ee), (2, .int a), (3, .int b), (4, .ref o)] := hl
  have SC : CallFix p m c cL_weigh 6 s ([.ref h, .int ee, .int a, .int b, .ref o] : List Value).toArray wsL_weigh RL := ⟨hx, hb, hml, hown, hts⟩
  refine lv_aload hx hb dL_weigh_0 (lv_at hl 4 rfl) ?_
  refine lv_iconst (v := 0) hx hb dL_weigh_2 (by decide) ?_
  refine lv_aload_n hx hb dL_weigh_3 rfl (lv_at hl 0 rfl) ?_
  refine lv_iload_n hx hb dL_weigh_4 rfl (lv_at hl 1 rfl) ?_
  refine lv_iload_n hx hb dL_weigh_5 rfl (lv_at hl 2 rfl) ?_
  refine lv_iload_n hx hb dL_weigh_6 rfl (lv_at hl 3 rfl) ?_
  refine r_c (rm := ({ frames := 8, cells := 1, slots := 6, locals := 160 } : Room)) (As := [.int ee, .int a, .int b]) (rest := [.int 0, .ref o]) (m_weigh l D ad cI cJ ((o, .inl (cJ, 1, .inr (.inl g))) :: tt) h r1 f1 s1 R F S cn ee a b hl9 hR) SC (cwV 3 hts gL_weigh_X0_weigh rfl rfl rfl (by decide +kernel) ⟨Nat.le_of_ble_eq_true rfl, Nat.le_of_ble_eq_true rfl⟩) hP hK hD hS hA hX 0 rfl rfl rfl hl.1 rfl (Nat.le_of_ble_eq_true rfl) dL_weigh_7 ⟨Nat.le_of_ble_eq_true rfl, Nat.le_of_ble_eq_true rfl⟩ (fun E ce q9 H locs _ hE hP hD hS hce hcv hcl => ?_) (fun H locs hk0 _ _ _ => absurd hk0 hk)
  rcases rk_kW_r ee a b cn with h9 | h9 | h9
  · exact absurd h9 hk
  · have hE : E = "java/lang/IllegalArgumentException" := by rw [hE, h9]; rfl
    subst hE
    refine vx_catch (own := RL) (name := "java/lang/IllegalArgumentException") (E := "java/lang/IllegalArgumentException") hown [] ⟨0, 12, 15, 13⟩ [⟨0, 12, 19, 15⟩] (by rw [hTab]; rfl) (fun z hz => nomatch hz) (by decide) (by decide) (hts (.classLink RL 13 "java/lang/IllegalArgumentException") (by decide +kernel)) (va_Nw.use rfl (hX.2.1 _ (List.mem_of_getElem? (i := 0) rfl))) hce hcv hcl ?_
    refine lv_astore (lv' := [(5, .ref q9), (0, .ref h), (1, .int ee), (2, .int a), (3, .int b), (4, .ref o)]) hx hb dL_weigh_15 hl (by decide) rfl (fun ls hl => ?_)
    refine lv_iconst (v := 1) hx hb dL_weigh_17 (by decide) ?_
    refine q_top (nI (rk_kW ee a b cn)) (by rw [h9]; rfl) ?_
    exact e_i hx hb hr hlocks hP hK hD hS dL_weigh_18 (Nat.le_of_ble_eq_true rfl) (Nat.le_of_ble_eq_true rfl)
  · have hE : E = "java/util/NoSuchElementException" := by rw [hE, h9]; rfl
    subst hE
    refine vx_catch (own := RL) (name := "java/util/NoSuchElementException") (E := "java/util/NoSuchElementException") hown [⟨0, 12, 15, 13⟩] ⟨0, 12, 19, 15⟩ [] (by rw [hTab]; rfl) (by
        intro z hz
        rcases List.mem_cons.mp hz with rfl | hz
        · exact Or.inr ⟨by decide, "java/lang/IllegalArgumentException", hts (.classLink RL 13 "java/lang/IllegalArgumentException") (by decide +kernel), hX.2.2.2.1.1⟩
        cases hz) (by decide) (by decide) (hts (.classLink RL 15 "java/util/NoSuchElementException") (by decide +kernel)) (va_Nw.use rfl (hX.2.1 _ (List.mem_of_getElem? (i := 1) rfl))) hce hcv hcl ?_
    refine lv_astore (lv' := [(5, .ref q9), (0, .ref h), (1, .int ee), (2, .int a), (3, .int b), (4, .ref o)]) hx hb dL_weigh_19 hl (by decide) rfl (fun ls hl => ?_)
    refine lv_iconst (v := 2) hx hb dL_weigh_21 (by decide) ?_
    refine q_top (nI (rk_kW ee a b cn)) (by rw [h9]; rfl) ?_
    exact e_i hx hb hr hlocks hP hK hD hS dL_weigh_22 (Nat.le_of_ble_eq_true rfl) (Nat.le_of_ble_eq_true rfl)
set_option maxHeartbeats 4000000 in
set_option maxRecDepth 100000 in
theorem w_find_ok (l : Launch) (D : va_G) (ad : Nat → Nat) (cI cJ : ClassId) (tt : va_W) (h r1 f1 s1 o : Nat) (R F S : Nat → Int32) (cn : Nat) (g : Nat → Int64) (q : Int32) (hl9 : l.stackTraces = false) (hR : rk_ok R cn) (hk : rk_kD R F q cn = 0) : uI l yL_find wsL_find ({ frames := 9, cells := 1, slots := 6, locals := 200 } : Room) D ad [(cI, .int), (cJ, .long)] [.ref h, .int q, .ref o] (wX h r1 f1 s1 cI R F S cn ((o, .inl (cJ, 1, .inr (.inl g))) :: tt)) (wX h r1 f1 s1 cI R F S cn ((o, .inl (cJ, 1, .inr (.inl (vp_updL g 0 ((R (rk_fd R F q cn)).toInt64))))) :: tt)) (0) 1 6 := by
  unfold uI
  refine st_W (Qc := qI D [(cI, .int), (cJ, .long)] (wX h r1 f1 s1 cI R F S cn ((o, .inl (cJ, 1, .inr (.inl (vp_updL g 0 ((R (rk_fd R F q cn)).toInt64))))) :: tt)) 0) (hh := [(0, 9, 12, 15)]) (mc := 1) (ms := 6) (cc := cL_find) (maxL := 4) (ret := (some .int)) [.ref h, .int q, .ref o] (by decide) rfl (Nat.le_of_ble_eq_true rfl) (fun p en s m below meth c A ls hTab hx hb hr hlocks hml hts hown hA hS hP hK hD hX hl => ?_)
  have hown : s.vm.findClass RL = some m.cls := hown
  have hl : lv_has ls 4 [(0, .ref h), (1, .int q), (2, .ref o)] := hl
  have SC : CallFix p m c cL_find 4 s ([.ref h, .int q, .ref o] : List Value).toArray wsL_find RL := ⟨hx, hb, hml, hown, hts⟩
  refine lv_aload_n hx hb dL_find_0 rfl (lv_at hl 2 rfl) ?_
  refine lv_iconst (v := 0) hx hb dL_find_1 (by decide) ?_
  refine lv_aload_n hx hb dL_find_2 rfl (lv_at hl 0 rfl) ?_
  refine lv_iload_n hx hb dL_find_3 rfl (lv_at hl 1 rfl) ?_
  refine r_c (rm := ({ frames := 8, cells := 1, slots := 6, locals := 160 } : Room)) (As := [.int q]) (rest := [.int 0, .ref o]) (m_find l D ad cI cJ ((o, .inl (cJ, 1, .inr (.inl g))) :: tt) h r1 f1 s1 R F S cn q hl9 hR) SC (cwV 1 hts gL_find_X0_find rfl rfl rfl (by decide +kernel) ⟨Nat.le_of_ble_eq_true rfl, Nat.le_of_ble_eq_true rfl⟩) hP hK hD hS hA hX 0 rfl rfl rfl hl.1 rfl (Nat.le_of_ble_eq_true rfl) dL_find_4 ⟨Nat.le_of_ble_eq_true rfl, Nat.le_of_ble_eq_true rfl⟩ (fun E ce q9 H locs hk0 _ _ _ _ _ _ _ => absurd hk hk0) (fun H locs _ hP hD hS => ?_)
  have hP : va_P D vwD (wX h r1 f1 s1 cI R F S cn ((o, .inl (cJ, 1, .inr (.inl g))) :: tt)) H := hP
  have hD : va_D A (wX h r1 f1 s1 cI R F S cn ((o, .inl (cJ, 1, .inr (.inl g))) :: tt)) := hD
  refine lv_i2l hx hb dL_find_7 rfl ?_
  refine va_last hx hb hK hP hD hS 4 1 rfl rfl (vp_in_nI (n := 0) (N := 1) (by decide) (by decide)) dL_find_8 (fun H locs hP hD hS => ?_)
  rw [sb_cl0] at hP hD
  have hP : va_P D vwD (wX h r1 f1 s1 cI R F S cn ((o, .inl (cJ, 1, .inr (.inl (vp_updL g 0 (((R (rk_fd R F q cn))).toInt64))))) :: tt)) H := hP
  have hD : va_D A (wX h r1 f1 s1 cI R F S cn ((o, .inl (cJ, 1, .inr (.inl (vp_updL g 0 (((R (rk_fd R F q cn))).toInt64))))) :: tt)) := hD
  refine lv_goto (tgt := 15) hx hb dL_find_9 (by decide) ?_
  refine lv_iconst (v := 0) hx hb dL_find_15 (by decide) ?_
  exact e_i hx hb hr hlocks hP hK hD hS dL_find_16 (Nat.le_of_ble_eq_true rfl) (Nat.le_of_ble_eq_true rfl)
set_option maxHeartbeats 4000000 in
set_option maxRecDepth 100000 in
theorem w_find_bad (l : Launch) (D : va_G) (ad : Nat → Nat) (cI cJ : ClassId) (tt : va_W) (h r1 f1 s1 o : Nat) (R F S : Nat → Int32) (cn : Nat) (g : Nat → Int64) (q : Int32) (hl9 : l.stackTraces = false) (hR : rk_ok R cn) (hk : rk_kD R F q cn ≠ 0) : uI l yL_find wsL_find ({ frames := 9, cells := 1, slots := 6, locals := 200 } : Room) D ad [(cI, .int), (cJ, .long)] [.ref h, .int q, .ref o] (wX h r1 f1 s1 cI R F S cn ((o, .inl (cJ, 1, .inr (.inl g))) :: tt)) (wX h r1 f1 s1 cI R F S cn ((o, .inl (cJ, 1, .inr (.inl g))) :: tt)) (1) 1 6 := by
  unfold uI
  refine st_W (Qc := qI D [(cI, .int), (cJ, .long)] (wX h r1 f1 s1 cI R F S cn ((o, .inl (cJ, 1, .inr (.inl g))) :: tt)) (1)) (hh := [(0, 9, 12, 15)]) (mc := 1) (ms := 6) (cc := cL_find) (maxL := 4) (ret := (some .int)) [.ref h, .int q, .ref o] (by decide) rfl (Nat.le_of_ble_eq_true rfl) (fun p en s m below meth c A ls hTab hx hb hr hlocks hml hts hown hA hS hP hK hD hX hl => ?_)
  have hown : s.vm.findClass RL = some m.cls := hown
  have hl : lv_has ls 4 [(0, .ref h), (1, .int q), (2, .ref o)] := hl
  have SC : CallFix p m c cL_find 4 s ([.ref h, .int q, .ref o] : List Value).toArray wsL_find RL := ⟨hx, hb, hml, hown, hts⟩
  refine lv_aload_n hx hb dL_find_0 rfl (lv_at hl 2 rfl) ?_
  refine lv_iconst (v := 0) hx hb dL_find_1 (by decide) ?_
  refine lv_aload_n hx hb dL_find_2 rfl (lv_at hl 0 rfl) ?_
  refine lv_iload_n hx hb dL_find_3 rfl (lv_at hl 1 rfl) ?_
  refine r_c (rm := ({ frames := 8, cells := 1, slots := 6, locals := 160 } : Room)) (As := [.int q]) (rest := [.int 0, .ref o]) (m_find l D ad cI cJ ((o, .inl (cJ, 1, .inr (.inl g))) :: tt) h r1 f1 s1 R F S cn q hl9 hR) SC (cwV 1 hts gL_find_X0_find rfl rfl rfl (by decide +kernel) ⟨Nat.le_of_ble_eq_true rfl, Nat.le_of_ble_eq_true rfl⟩) hP hK hD hS hA hX 0 rfl rfl rfl hl.1 rfl (Nat.le_of_ble_eq_true rfl) dL_find_4 ⟨Nat.le_of_ble_eq_true rfl, Nat.le_of_ble_eq_true rfl⟩ (fun E ce q9 H locs _ hE hP hD hS hce hcv hcl => ?_) (fun H locs hk0 _ _ _ => absurd hk0 hk)
  rcases rk_kD_r R F q cn with h9 | h9
  · exact absurd h9 hk
  · have hE : E = "java/util/NoSuchElementException" := by rw [hE, h9]; rfl
    subst hE
    refine vx_catch (own := RL) (name := "java/util/NoSuchElementException") (E := "java/util/NoSuchElementException") hown [] ⟨0, 9, 12, 15⟩ [] (by rw [hTab]; rfl) (fun z hz => nomatch hz) (by decide) (by decide) (hts (.classLink RL 15 "java/util/NoSuchElementException") (by decide +kernel)) (va_Nw.use rfl (hX.2.1 _ (List.mem_of_getElem? (i := 1) rfl))) hce hcv hcl ?_
    refine lv_astore_n (lv' := [(3, .ref q9), (0, .ref h), (1, .int q), (2, .ref o)]) hx hb dL_find_12 rfl hl (by decide) rfl (fun ls hl => ?_)
    refine lv_iconst (v := 1) hx hb dL_find_13 (by decide) ?_
    exact e_i hx hb hr hlocks hP hK hD hS dL_find_14 (Nat.le_of_ble_eq_true rfl) (Nat.le_of_ble_eq_true rfl)
set_option maxHeartbeats 4000000 in
set_option maxRecDepth 100000 in
theorem w_sum_ok (l : Launch) (D : va_G) (ad : Nat → Nat) (cI cJ : ClassId) (tt : va_W) (h r1 f1 s1 o : Nat) (R F S : Nat → Int32) (cn : Nat) (g : Nat → Int64) (ee z : Int32) (hl9 : l.stackTraces = false) (hR : rk_ok R cn) (hk : rk_kS ee z cn = 0) : uI l yL_sum wsL_sum ({ frames := 9, cells := 1, slots := 6, locals := 200 } : Room) D ad [(cI, .int), (cJ, .long)] [.ref h, .int ee, .int z, .ref o] (wX h r1 f1 s1 cI R F S cn ((o, .inl (cJ, 1, .inr (.inl g))) :: tt)) (wX h r1 f1 s1 cI R F S cn ((o, .inl (cJ, 1, .inr (.inl (vp_updL g 0 ((rk_sm R (if z = 0 then F else S) (if ee = -1 then cn else rk_pl R ee cn)).toInt64))))) :: tt)) (0) 1 6 := by
  unfold uI
  refine st_W (Qc := qI D [(cI, .int), (cJ, .long)] (wX h r1 f1 s1 cI R F S cn ((o, .inl (cJ, 1, .inr (.inl (vp_updL g 0 ((rk_sm R (if z = 0 then F else S) (if ee = -1 then cn else rk_pl R ee cn)).toInt64))))) :: tt)) 0) (hh := [(0, 10, 13, 13), (0, 10, 17, 15)]) (mc := 1) (ms := 6) (cc := cL_sum) (maxL := 5) (ret := (some .int)) [.ref h, .int ee, .int z, .ref o] (by decide) rfl (Nat.le_of_ble_eq_true rfl) (fun p en s m below meth c A ls hTab hx hb hr hlocks hml hts hown hA hS hP hK hD hX hl => ?_)
  have hown : s.vm.findClass RL = some m.cls := hown
  have hl : lv_has ls 5 [(0, .ref h), (1, .int ee), (2, .int z), (3, .ref o)] := hl
  have SC : CallFix p m c cL_sum 5 s ([.ref h, .int ee, .int z, .ref o] : List Value).toArray wsL_sum RL := ⟨hx, hb, hml, hown, hts⟩
  refine lv_aload_n hx hb dL_sum_0 rfl (lv_at hl 3 rfl) ?_
  refine lv_iconst (v := 0) hx hb dL_sum_1 (by decide) ?_
  refine lv_aload_n hx hb dL_sum_2 rfl (lv_at hl 0 rfl) ?_
  refine lv_iload_n hx hb dL_sum_3 rfl (lv_at hl 1 rfl) ?_
  refine lv_iload_n hx hb dL_sum_4 rfl (lv_at hl 2 rfl) ?_
  refine r_c (rm := ({ frames := 8, cells := 1, slots := 6, locals := 160 } : Room)) (As := [.int ee, .int z]) (rest := [.int 0, .ref o]) (m_sum l D ad cI cJ ((o, .inl (cJ, 1, .inr (.inl g))) :: tt) h r1 f1 s1 R F S cn ee z hl9 hR) SC (cwV 2 hts gL_sum_X0_sum rfl rfl rfl (by decide +kernel) ⟨Nat.le_of_ble_eq_true rfl, Nat.le_of_ble_eq_true rfl⟩) hP hK hD hS hA hX 0 rfl rfl rfl hl.1 rfl (Nat.le_of_ble_eq_true rfl) dL_sum_5 ⟨Nat.le_of_ble_eq_true rfl, Nat.le_of_ble_eq_true rfl⟩ (fun E ce q9 H locs hk0 _ _ _ _ _ _ _ => absurd hk hk0) (fun H locs _ hP hD hS => ?_)
  have hP : va_P D vwD (wX h r1 f1 s1 cI R F S cn ((o, .inl (cJ, 1, .inr (.inl g))) :: tt)) H := hP
  have hD : va_D A (wX h r1 f1 s1 cI R F S cn ((o, .inl (cJ, 1, .inr (.inl g))) :: tt)) := hD
  refine lv_i2l hx hb dL_sum_8 rfl ?_
  refine va_last hx hb hK hP hD hS 4 1 rfl rfl (vp_in_nI (n := 0) (N := 1) (by decide) (by decide)) dL_sum_9 (fun H locs hP hD hS => ?_)
  rw [sb_cl0] at hP hD
  have hP : va_P D vwD (wX h r1 f1 s1 cI R F S cn ((o, .inl (cJ, 1, .inr (.inl (vp_updL g 0 (((rk_sm R (if z = 0 then F else S) (if ee = -1 then cn else rk_pl R ee cn))).toInt64))))) :: tt)) H := hP
  have hD : va_D A (wX h r1 f1 s1 cI R F S cn ((o, .inl (cJ, 1, .inr (.inl (vp_updL g 0 (((rk_sm R (if z = 0 then F else S) (if ee = -1 then cn else rk_pl R ee cn))).toInt64))))) :: tt)) := hD
  refine lv_goto (tgt := 21) hx hb dL_sum_10 (by decide) ?_
  refine lv_iconst (v := 0) hx hb dL_sum_21 (by decide) ?_
  exact e_i hx hb hr hlocks hP hK hD hS dL_sum_22 (Nat.le_of_ble_eq_true rfl) (Nat.le_of_ble_eq_true rfl)
set_option maxHeartbeats 4000000 in
set_option maxRecDepth 100000 in
theorem w_sum_bad (l : Launch) (D : va_G) (ad : Nat → Nat) (cI cJ : ClassId) (tt : va_W) (h r1 f1 s1 o : Nat) (R F S : Nat → Int32) (cn : Nat) (g : Nat → Int64) (ee z : Int32) (hl9 : l.stackTraces = false) (hR : rk_ok R cn) (hk : rk_kS ee z cn ≠ 0) : uI l yL_sum wsL_sum ({ frames := 9, cells := 1, slots := 6, locals := 200 } : Room) D ad [(cI, .int), (cJ, .long)] [.ref h, .int ee, .int z, .ref o] (wX h r1 f1 s1 cI R F S cn ((o, .inl (cJ, 1, .inr (.inl g))) :: tt)) (wX h r1 f1 s1 cI R F S cn ((o, .inl (cJ, 1, .inr (.inl g))) :: tt)) (nI (rk_kS ee z cn)) 1 6 := by
  unfold uI
  refine st_W (Qc := qI D [(cI, .int), (cJ, .long)] (wX h r1 f1 s1 cI R F S cn ((o, .inl (cJ, 1, .inr (.inl g))) :: tt)) (nI (rk_kS ee z cn))) (hh := [(0, 10, 13, 13), (0, 10, 17, 15)]) (mc := 1) (ms := 6) (cc := cL_sum) (maxL := 5) (ret := (some .int)) [.ref h, .int ee, .int z, .ref o] (by decide) rfl (Nat.le_of_ble_eq_true rfl) (fun p en s m below meth c A ls hTab hx hb hr hlocks hml hts hown hA hS hP hK hD hX hl => ?_)
  have hown : s.vm.findClass RL = some m.cls := hown
  have hl : lv_has ls 5 [(0, .ref h), (1, .int ee), (2, .int z), (3, .ref o)] := hl
  have SC : CallFix p m c cL_sum 5 s ([.ref h, .int ee, .int z, .ref o] : List Value).toArray wsL_sum RL := ⟨hx, hb, hml, hown, hts⟩
  refine lv_aload_n hx hb dL_sum_0 rfl (lv_at hl 3 rfl) ?_
  refine lv_iconst (v := 0) hx hb dL_sum_1 (by decide) ?_
  refine lv_aload_n hx hb dL_sum_2 rfl (lv_at hl 0 rfl) ?_
  refine lv_iload_n hx hb dL_sum_3 rfl (lv_at hl 1 rfl) ?_
  refine lv_iload_n hx hb dL_sum_4 rfl (lv_at hl 2 rfl) ?_
  refine r_c (rm := ({ frames := 8, cells := 1, slots := 6, locals := 160 } : Room)) (As := [.int ee, .int z]) (rest := [.int 0, .ref o]) (m_sum l D ad cI cJ ((o, .inl (cJ, 1, .inr (.inl g))) :: tt) h r1 f1 s1 R F S cn ee z hl9 hR) SC (cwV 2 hts gL_sum_X0_sum rfl rfl rfl (by decide +kernel) ⟨Nat.le_of_ble_eq_true rfl, Nat.le_of_ble_eq_true rfl⟩) hP hK hD hS hA hX 0 rfl rfl rfl hl.1 rfl (Nat.le_of_ble_eq_true rfl) dL_sum_5 ⟨Nat.le_of_ble_eq_true rfl, Nat.le_of_ble_eq_true rfl⟩ (fun E ce q9 H locs _ hE hP hD hS hce hcv hcl => ?_) (fun H locs hk0 _ _ _ => absurd hk0 hk)
  rcases rk_kS_r ee z cn with h9 | h9 | h9
  · exact absurd h9 hk
  · have hE : E = "java/lang/IllegalArgumentException" := by rw [hE, h9]; rfl
    subst hE
    refine vx_catch (own := RL) (name := "java/lang/IllegalArgumentException") (E := "java/lang/IllegalArgumentException") hown [] ⟨0, 10, 13, 13⟩ [⟨0, 10, 17, 15⟩] (by rw [hTab]; rfl) (fun z hz => nomatch hz) (by decide) (by decide) (hts (.classLink RL 13 "java/lang/IllegalArgumentException") (by decide +kernel)) (va_Nw.use rfl (hX.2.1 _ (List.mem_of_getElem? (i := 0) rfl))) hce hcv hcl ?_
    refine lv_astore (lv' := [(4, .ref q9), (0, .ref h), (1, .int ee), (2, .int z), (3, .ref o)]) hx hb dL_sum_13 hl (by decide) rfl (fun ls hl => ?_)
    refine lv_iconst (v := 1) hx hb dL_sum_15 (by decide) ?_
    refine q_top (nI (rk_kS ee z cn)) (by rw [h9]; rfl) ?_
    exact e_i hx hb hr hlocks hP hK hD hS dL_sum_16 (Nat.le_of_ble_eq_true rfl) (Nat.le_of_ble_eq_true rfl)
  · have hE : E = "java/util/NoSuchElementException" := by rw [hE, h9]; rfl
    subst hE
    refine vx_catch (own := RL) (name := "java/util/NoSuchElementException") (E := "java/util/NoSuchElementException") hown [⟨0, 10, 13, 13⟩] ⟨0, 10, 17, 15⟩ [] (by rw [hTab]; rfl) (by
        intro z hz
        rcases List.mem_cons.mp hz with rfl | hz
        · exact Or.inr ⟨by decide, "java/lang/IllegalArgumentException", hts (.classLink RL 13 "java/lang/IllegalArgumentException") (by decide +kernel), hX.2.2.2.1.1⟩
        cases hz) (by decide) (by decide) (hts (.classLink RL 15 "java/util/NoSuchElementException") (by decide +kernel)) (va_Nw.use rfl (hX.2.1 _ (List.mem_of_getElem? (i := 1) rfl))) hce hcv hcl ?_
    refine lv_astore (lv' := [(4, .ref q9), (0, .ref h), (1, .int ee), (2, .int z), (3, .ref o)]) hx hb dL_sum_17 hl (by decide) rfl (fun ls hl => ?_)
    refine lv_iconst (v := 2) hx hb dL_sum_19 (by decide) ?_
    refine q_top (nI (rk_kS ee z cn)) (by rw [h9]; rfl) ?_
    exact e_i hx hb hr hlocks hP hK hD hS dL_sum_20 (Nat.le_of_ble_eq_true rfl) (Nat.le_of_ble_eq_true rfl)
set_option maxHeartbeats 4000000 in
set_option maxRecDepth 100000 in
theorem w_next_ok (l : Launch) (D : va_G) (ad : Nat → Nat) (cI cJ : ClassId) (tt : va_W) (h r1 f1 s1 o : Nat) (R F S : Nat → Int32) (cn : Nat) (g : Nat → Int64) (ee : Int32) (hl9 : l.stackTraces = false) (hR : rk_ok R cn) (hk : rk_kN R ee cn = 0) : uI l yL_next wsL_next ({ frames := 9, cells := 1, slots := 6, locals := 200 } : Room) D ad [(cI, .int), (cJ, .long)] [.ref h, .int ee, .ref o] (wX h r1 f1 s1 cI R F S cn ((o, .inl (cJ, 1, .inr (.inl g))) :: tt)) (wX h r1 f1 s1 cI R F S cn ((o, .inl (cJ, 1, .inr (.inl (vp_updL g 0 ((R (rk_pb R ee cn)).toInt64))))) :: tt)) (0) 1 6 := by
  unfold uI
  refine st_W (Qc := qI D [(cI, .int), (cJ, .long)] (wX h r1 f1 s1 cI R F S cn ((o, .inl (cJ, 1, .inr (.inl (vp_updL g 0 ((R (rk_pb R ee cn)).toInt64))))) :: tt)) 0) (hh := [(0, 9, 12, 15)]) (mc := 1) (ms := 6) (cc := cL_next) (maxL := 4) (ret := (some .int)) [.ref h, .int ee, .ref o] (by decide) rfl (Nat.le_of_ble_eq_true rfl) (fun p en s m below meth c A ls hTab hx hb hr hlocks hml hts hown hA hS hP hK hD hX hl => ?_)
  have hown : s.vm.findClass RL = some m.cls := hown
  have hl : lv_has ls 4 [(0, .ref h), (1, .int ee), (2, .ref o)] := hl
  have SC : CallFix p m c cL_next 4 s ([.ref h, .int ee, .ref o] : List Value).toArray wsL_next RL := ⟨hx, hb, hml, hown, hts⟩
  refine lv_aload_n hx hb dL_next_0 rfl (lv_at hl 2 rfl) ?_
  refine lv_iconst (v := 0) hx hb dL_next_1 (by decide) ?_
  refine lv_aload_n hx hb dL_next_2 rfl (lv_at hl 0 rfl) ?_
  refine lv_iload_n hx hb dL_next_3 rfl (lv_at hl 1 rfl) ?_
  refine r_c (rm := ({ frames := 8, cells := 1, slots := 6, locals := 160 } : Room)) (As := [.int ee]) (rest := [.int 0, .ref o]) (m_next l D ad cI cJ ((o, .inl (cJ, 1, .inr (.inl g))) :: tt) h r1 f1 s1 R F S cn ee hl9 hR) SC (cwV 1 hts gL_next_X0_next rfl rfl rfl (by decide +kernel) ⟨Nat.le_of_ble_eq_true rfl, Nat.le_of_ble_eq_true rfl⟩) hP hK hD hS hA hX 0 rfl rfl rfl hl.1 rfl (Nat.le_of_ble_eq_true rfl) dL_next_4 ⟨Nat.le_of_ble_eq_true rfl, Nat.le_of_ble_eq_true rfl⟩ (fun E ce q9 H locs hk0 _ _ _ _ _ _ _ => absurd hk hk0) (fun H locs _ hP hD hS => ?_)
  have hP : va_P D vwD (wX h r1 f1 s1 cI R F S cn ((o, .inl (cJ, 1, .inr (.inl g))) :: tt)) H := hP
  have hD : va_D A (wX h r1 f1 s1 cI R F S cn ((o, .inl (cJ, 1, .inr (.inl g))) :: tt)) := hD
  refine lv_i2l hx hb dL_next_7 rfl ?_
  refine va_last hx hb hK hP hD hS 4 1 rfl rfl (vp_in_nI (n := 0) (N := 1) (by decide) (by decide)) dL_next_8 (fun H locs hP hD hS => ?_)
  rw [sb_cl0] at hP hD
  have hP : va_P D vwD (wX h r1 f1 s1 cI R F S cn ((o, .inl (cJ, 1, .inr (.inl (vp_updL g 0 (((R (rk_pb R ee cn))).toInt64))))) :: tt)) H := hP
  have hD : va_D A (wX h r1 f1 s1 cI R F S cn ((o, .inl (cJ, 1, .inr (.inl (vp_updL g 0 (((R (rk_pb R ee cn))).toInt64))))) :: tt)) := hD
  refine lv_goto (tgt := 15) hx hb dL_next_9 (by decide) ?_
  refine lv_iconst (v := 0) hx hb dL_next_15 (by decide) ?_
  exact e_i hx hb hr hlocks hP hK hD hS dL_next_16 (Nat.le_of_ble_eq_true rfl) (Nat.le_of_ble_eq_true rfl)
set_option maxHeartbeats 4000000 in
set_option maxRecDepth 100000 in
theorem w_next_bad (l : Launch) (D : va_G) (ad : Nat → Nat) (cI cJ : ClassId) (tt : va_W) (h r1 f1 s1 o : Nat) (R F S : Nat → Int32) (cn : Nat) (g : Nat → Int64) (ee : Int32) (hl9 : l.stackTraces = false) (hR : rk_ok R cn) (hk : rk_kN R ee cn ≠ 0) : uI l yL_next wsL_next ({ frames := 9, cells := 1, slots := 6, locals := 200 } : Room) D ad [(cI, .int), (cJ, .long)] [.ref h, .int ee, .ref o] (wX h r1 f1 s1 cI R F S cn ((o, .inl (cJ, 1, .inr (.inl g))) :: tt)) (wX h r1 f1 s1 cI R F S cn ((o, .inl (cJ, 1, .inr (.inl g))) :: tt)) (1) 1 6 := by
  unfold uI
  refine st_W (Qc := qI D [(cI, .int), (cJ, .long)] (wX h r1 f1 s1 cI R F S cn ((o, .inl (cJ, 1, .inr (.inl g))) :: tt)) (1)) (hh := [(0, 9, 12, 15)]) (mc := 1) (ms := 6) (cc := cL_next) (maxL := 4) (ret := (some .int)) [.ref h, .int ee, .ref o] (by decide) rfl (Nat.le_of_ble_eq_true rfl) (fun p en s m below meth c A ls hTab hx hb hr hlocks hml hts hown hA hS hP hK hD hX hl => ?_)
  have hown : s.vm.findClass RL = some m.cls := hown
  have hl : lv_has ls 4 [(0, .ref h), (1, .int ee), (2, .ref o)] := hl
  have SC : CallFix p m c cL_next 4 s ([.ref h, .int ee, .ref o] : List Value).toArray wsL_next RL := ⟨hx, hb, hml, hown, hts⟩
  refine lv_aload_n hx hb dL_next_0 rfl (lv_at hl 2 rfl) ?_
  refine lv_iconst (v := 0) hx hb dL_next_1 (by decide) ?_
  refine lv_aload_n hx hb dL_next_2 rfl (lv_at hl 0 rfl) ?_
  refine lv_iload_n hx hb dL_next_3 rfl (lv_at hl 1 rfl) ?_
  refine r_c (rm := ({ frames := 8, cells := 1, slots := 6, locals := 160 } : Room)) (As := [.int ee]) (rest := [.int 0, .ref o]) (m_next l D ad cI cJ ((o, .inl (cJ, 1, .inr (.inl g))) :: tt) h r1 f1 s1 R F S cn ee hl9 hR) SC (cwV 1 hts gL_next_X0_next rfl rfl rfl (by decide +kernel) ⟨Nat.le_of_ble_eq_true rfl, Nat.le_of_ble_eq_true rfl⟩) hP hK hD hS hA hX 0 rfl rfl rfl hl.1 rfl (Nat.le_of_ble_eq_true rfl) dL_next_4 ⟨Nat.le_of_ble_eq_true rfl, Nat.le_of_ble_eq_true rfl⟩ (fun E ce q9 H locs _ hE hP hD hS hce hcv hcl => ?_) (fun H locs hk0 _ _ _ => absurd hk0 hk)
  rcases rk_kN_r R ee cn with h9 | h9
  · exact absurd h9 hk
  · have hE : E = "java/util/NoSuchElementException" := by rw [hE, h9]; rfl
    subst hE
    refine vx_catch (own := RL) (name := "java/util/NoSuchElementException") (E := "java/util/NoSuchElementException") hown [] ⟨0, 9, 12, 15⟩ [] (by rw [hTab]; rfl) (fun z hz => nomatch hz) (by decide) (by decide) (hts (.classLink RL 15 "java/util/NoSuchElementException") (by decide +kernel)) (va_Nw.use rfl (hX.2.1 _ (List.mem_of_getElem? (i := 1) rfl))) hce hcv hcl ?_
    refine lv_astore_n (lv' := [(3, .ref q9), (0, .ref h), (1, .int ee), (2, .ref o)]) hx hb dL_next_12 rfl hl (by decide) rfl (fun ls hl => ?_)
    refine lv_iconst (v := 1) hx hb dL_next_13 (by decide) ?_
    exact e_i hx hb hr hlocks hP hK hD hS dL_next_14 (Nat.le_of_ble_eq_true rfl) (Nat.le_of_ble_eq_true rfl)
set_option maxHeartbeats 4000000 in
set_option maxRecDepth 100000 in
theorem w_place_ok (l : Launch) (D : va_G) (ad : Nat → Nat) (cI cJ : ClassId) (tt : va_W) (h r1 f1 s1 o : Nat) (R F S : Nat → Int32) (cn : Nat) (g : Nat → Int64) (ee : Int32) (hl9 : l.stackTraces = false) (hR : rk_ok R cn) (hk : rk_kP ee cn = 0) : uI l yL_place wsL_place ({ frames := 9, cells := 1, slots := 6, locals := 200 } : Room) D ad [(cI, .int), (cJ, .long)] [.ref h, .int ee, .ref o] (wX h r1 f1 s1 cI R F S cn ((o, .inl (cJ, 1, .inr (.inl g))) :: tt)) (wX h r1 f1 s1 cI R F S cn ((o, .inl (cJ, 1, .inr (.inl (vp_updL g 0 ((nI (rk_pl R ee cn)).toInt64))))) :: tt)) (0) 1 6 := by
  unfold uI
  refine st_W (Qc := qI D [(cI, .int), (cJ, .long)] (wX h r1 f1 s1 cI R F S cn ((o, .inl (cJ, 1, .inr (.inl (vp_updL g 0 ((nI (rk_pl R ee cn)).toInt64))))) :: tt)) 0) (hh := [(0, 9, 12, 15)]) (mc := 1) (ms := 6) (cc := cL_place) (maxL := 4) (ret := (some .int)) [.ref h, .int ee, .ref o] (by decide) rfl (Nat.le_of_ble_eq_true rfl) (fun p en s m below meth c A ls hTab hx hb hr hlocks hml hts hown hA hS hP hK hD hX hl => ?_)
  have hown : s.vm.findClass RL = some m.cls := hown
  have hl : lv_has ls 4 [(0, .ref h), (1, .int ee), (2, .ref o)] := hl
  have SC : CallFix p m c cL_place 4 s ([.ref h, .int ee, .ref o] : List Value).toArray wsL_place RL := ⟨hx, hb, hml, hown, hts⟩
  refine lv_aload_n hx hb dL_place_0 rfl (lv_at hl 2 rfl) ?_
  refine lv_iconst (v := 0) hx hb dL_place_1 (by decide) ?_
  refine lv_aload_n hx hb dL_place_2 rfl (lv_at hl 0 rfl) ?_
  refine lv_iload_n hx hb dL_place_3 rfl (lv_at hl 1 rfl) ?_
  refine r_c (rm := ({ frames := 8, cells := 1, slots := 6, locals := 160 } : Room)) (As := [.int ee]) (rest := [.int 0, .ref o]) (m_place l D ad cI cJ ((o, .inl (cJ, 1, .inr (.inl g))) :: tt) h r1 f1 s1 R F S cn ee hl9 hR) SC (cwV 1 hts gL_place_X0_place rfl rfl rfl (by decide +kernel) ⟨Nat.le_of_ble_eq_true rfl, Nat.le_of_ble_eq_true rfl⟩) hP hK hD hS hA hX 0 rfl rfl rfl hl.1 rfl (Nat.le_of_ble_eq_true rfl) dL_place_4 ⟨Nat.le_of_ble_eq_true rfl, Nat.le_of_ble_eq_true rfl⟩ (fun E ce q9 H locs hk0 _ _ _ _ _ _ _ => absurd hk hk0) (fun H locs _ hP hD hS => ?_)
  have hP : va_P D vwD (wX h r1 f1 s1 cI R F S cn ((o, .inl (cJ, 1, .inr (.inl g))) :: tt)) H := hP
  have hD : va_D A (wX h r1 f1 s1 cI R F S cn ((o, .inl (cJ, 1, .inr (.inl g))) :: tt)) := hD
  refine lv_i2l hx hb dL_place_7 rfl ?_
  refine va_last hx hb hK hP hD hS 4 1 rfl rfl (vp_in_nI (n := 0) (N := 1) (by decide) (by decide)) dL_place_8 (fun H locs hP hD hS => ?_)
  rw [sb_cl0] at hP hD
  have hP : va_P D vwD (wX h r1 f1 s1 cI R F S cn ((o, .inl (cJ, 1, .inr (.inl (vp_updL g 0 (((nI (rk_pl R ee cn))).toInt64))))) :: tt)) H := hP
  have hD : va_D A (wX h r1 f1 s1 cI R F S cn ((o, .inl (cJ, 1, .inr (.inl (vp_updL g 0 (((nI (rk_pl R ee cn))).toInt64))))) :: tt)) := hD
  refine lv_goto (tgt := 15) hx hb dL_place_9 (by decide) ?_
  refine lv_iconst (v := 0) hx hb dL_place_15 (by decide) ?_
  exact e_i hx hb hr hlocks hP hK hD hS dL_place_16 (Nat.le_of_ble_eq_true rfl) (Nat.le_of_ble_eq_true rfl)
set_option maxHeartbeats 4000000 in
set_option maxRecDepth 100000 in
theorem w_place_bad (l : Launch) (D : va_G) (ad : Nat → Nat) (cI cJ : ClassId) (tt : va_W) (h r1 f1 s1 o : Nat) (R F S : Nat → Int32) (cn : Nat) (g : Nat → Int64) (ee : Int32) (hl9 : l.stackTraces = false) (hR : rk_ok R cn) (hk : rk_kP ee cn ≠ 0) : uI l yL_place wsL_place ({ frames := 9, cells := 1, slots := 6, locals := 200 } : Room) D ad [(cI, .int), (cJ, .long)] [.ref h, .int ee, .ref o] (wX h r1 f1 s1 cI R F S cn ((o, .inl (cJ, 1, .inr (.inl g))) :: tt)) (wX h r1 f1 s1 cI R F S cn ((o, .inl (cJ, 1, .inr (.inl g))) :: tt)) (1) 1 6 := by
  unfold uI
  refine st_W (Qc := qI D [(cI, .int), (cJ, .long)] (wX h r1 f1 s1 cI R F S cn ((o, .inl (cJ, 1, .inr (.inl g))) :: tt)) (1)) (hh := [(0, 9, 12, 15)]) (mc := 1) (ms := 6) (cc := cL_place) (maxL := 4) (ret := (some .int)) [.ref h, .int ee, .ref o] (by decide) rfl (Nat.le_of_ble_eq_true rfl) (fun p en s m below meth c A ls hTab hx hb hr hlocks hml hts hown hA hS hP hK hD hX hl => ?_)
  have hown : s.vm.findClass RL = some m.cls := hown
  have hl : lv_has ls 4 [(0, .ref h), (1, .int ee), (2, .ref o)] := hl
  have SC : CallFix p m c cL_place 4 s ([.ref h, .int ee, .ref o] : List Value).toArray wsL_place RL := ⟨hx, hb, hml, hown, hts⟩
  refine lv_aload_n hx hb dL_place_0 rfl (lv_at hl 2 rfl) ?_
  refine lv_iconst (v := 0) hx hb dL_place_1 (by decide) ?_
  refine lv_aload_n hx hb dL_place_2 rfl (lv_at hl 0 rfl) ?_
  refine lv_iload_n hx hb dL_place_3 rfl (lv_at hl 1 rfl) ?_
  refine r_c (rm := ({ frames := 8, cells := 1, slots := 6, locals := 160 } : Room)) (As := [.int ee]) (rest := [.int 0, .ref o]) (m_place l D ad cI cJ ((o, .inl (cJ, 1, .inr (.inl g))) :: tt) h r1 f1 s1 R F S cn ee hl9 hR) SC (cwV 1 hts gL_place_X0_place rfl rfl rfl (by decide +kernel) ⟨Nat.le_of_ble_eq_true rfl, Nat.le_of_ble_eq_true rfl⟩) hP hK hD hS hA hX 0 rfl rfl rfl hl.1 rfl (Nat.le_of_ble_eq_true rfl) dL_place_4 ⟨Nat.le_of_ble_eq_true rfl, Nat.le_of_ble_eq_true rfl⟩ (fun E ce q9 H locs _ hE hP hD hS hce hcv hcl => ?_) (fun H locs hk0 _ _ _ => absurd hk0 hk)
  rcases rk_kP_r ee cn with h9 | h9
  · exact absurd h9 hk
  · have hE : E = "java/util/NoSuchElementException" := by rw [hE, h9]; rfl
    subst hE
    refine vx_catch (own := RL) (name := "java/util/NoSuchElementException") (E := "java/util/NoSuchElementException") hown [] ⟨0, 9, 12, 15⟩ [] (by rw [hTab]; rfl) (fun z hz => nomatch hz) (by decide) (by decide) (hts (.classLink RL 15 "java/util/NoSuchElementException") (by decide +kernel)) (va_Nw.use rfl (hX.2.1 _ (List.mem_of_getElem? (i := 1) rfl))) hce hcv hcl ?_
    refine lv_astore_n (lv' := [(3, .ref q9), (0, .ref h), (1, .int ee), (2, .ref o)]) hx hb dL_place_12 rfl hl (by decide) rfl (fun ls hl => ?_)
    refine lv_iconst (v := 1) hx hb dL_place_13 (by decide) ?_
    exact e_i hx hb hr hlocks hP hK hD hS dL_place_14 (Nat.le_of_ble_eq_true rfl) (Nat.le_of_ble_eq_true rfl)
