/-! The reference: its public methods -/
set_option maxHeartbeats 4000000 in
set_option maxRecDepth 100000 in
theorem p_behind_ok (l : Launch) (D : va_G) (ad : Nat → Nat) (cI cJ : ClassId) (p0 p1 p2 p3 p4 : Nat × va_E) (h r1 f1 s1 : Nat) (R F S : Nat → Int32) (cn : Nat) (th : Int32) (ee n a b : Int32) (hl9 : l.stackTraces = false) (hR : rk_ok R cn) (hk : rk_kB ee n a b cn = 0) : uI l yZ_behind wsZ_behind ({ frames := 8, cells := 1, slots := 6, locals := 180 } : Room) D ad [(cI, .int), (cJ, .long)] [.ref h, .int ee, .int n, .int a, .int b] (wM p0 p1 p2 p3 p4 h r1 f1 s1 cI R F S cn th) (wM p0 p1 p2 p3 p4 h r1 f1 s1 cI (rk_in R cn (rk_pb R ee cn) n.toNatClampNeg) (rk_fl F cn n.toNatClampNeg a) (rk_fl S cn n.toNatClampNeg b) (cn + n.toNatClampNeg) 0) (nI (cn + n.toNatClampNeg) - 1) 1 6 := by
  unfold uI
  refine st_W (Qc := qI D [(cI, .int), (cJ, .long)] (wM p0 p1 p2 p3 p4 h r1 f1 s1 cI (rk_in R cn (rk_pb R ee cn) n.toNatClampNeg) (rk_fl F cn n.toNatClampNeg a) (rk_fl S cn n.toNatClampNeg b) (cn + n.toNatClampNeg) 0) (nI (cn + n.toNatClampNeg) - 1)) (hh := [(5, 14, 15, 19), (5, 14, 25, 26), (5, 14, 35, 41)]) (mc := 1) (ms := 6) (cc := cZ_behind) (maxL := 6) (ret := (some .int)) [.ref h, .int ee, .int n, .int a, .int b] (by decide) rfl (Nat.le_of_ble_eq_true rfl) (fun p en s m below meth c A ls hTab hx hb hr hlocks hml hts hown hA hS hP hK hD hX hl => ?_)
  have hown : s.vm.findClass RZ = some m.cls := hown
  have hl : lv_has ls 6 [(0, .ref h), (1, .int ee), (2, .int n), (3, .int a), (4, .int b)] := hl
  have hu : ∀ w ∈ u_ws RZ TZ 5, w ∈ wsZ_behind := fun w h => List.mem_cons_of_mem _ (wsZ0_in w h)
  have hF52 := hts (.fieldLink RZ 52 "RankRowsModel" "thrown" "I") (by decide +kernel)
  have SC : CallFix p m c cZ_behind 6 s ([.ref h, .int ee, .int n, .int a, .int b] : List Value).toArray wsZ_behind RZ := ⟨hx, hb, hml, hown, hts⟩
  refine lv_aload_n hx hb dZ_behind_0 rfl (lv_at hl 0 rfl) ?_
  refine lv_iconst (v := 0) hx hb dZ_behind_1 (by decide) ?_
  refine va_put (D := D) (ci := 1) (v := .int 0) (ty := .int) (C := RZ) (T := TZ) (N := 5) hx hb hts hu tyZ tyZ_ok nmZ hown hK hP hD hS 5 rfl rfl 4 (by decide) hF52 (fun _ h9 => h9) rfl (by decide +kernel) rfl rfl (Nat.le_of_ble_eq_true rfl) dZ_behind_2 (fun H locs hP hD hS => ?_)
  have hP : va_P D vwD (wM p0 p1 p2 p3 p4 h r1 f1 s1 cI R F S cn 0) H := hP
  have hD : va_D A (wM p0 p1 p2 p3 p4 h r1 f1 s1 cI R F S cn 0) := hD
  refine lv_aload_n hx hb dZ_behind_5 rfl (lv_at hl 0 rfl) ?_
  refine lv_iload_n hx hb dZ_behind_6 rfl (lv_at hl 1 rfl) ?_
  refine lv_iload_n hx hb dZ_behind_7 rfl (lv_at hl 2 rfl) ?_
  refine lv_iload_n hx hb dZ_behind_8 rfl (lv_at hl 3 rfl) ?_
  refine lv_iload hx hb dZ_behind_9 (lv_at hl 4 rfl) ?_
  refine r_c (rm := ({ frames := 7, cells := 1, slots := 6, locals := 140 } : Room)) (As := [.int ee, .int n, .int a, .int b]) (rest := []) (j_behind l D ad cI cJ p0 p1 p2 p3 p4 h r1 f1 s1 R F S cn 0 ee n a b hl9 hR) SC (cwV 4 hts gZ_behind_Z_behind0 rfl rfl rfl (by decide +kernel) ⟨Nat.le_of_ble_eq_true rfl, Nat.le_of_ble_eq_true rfl⟩) hP hK hD hS hA hX 5 rfl rfl rfl hl.1 rfl (Nat.le_of_ble_eq_true rfl) dZ_behind_11 ⟨Nat.le_of_ble_eq_true rfl, Nat.le_of_ble_eq_true rfl⟩ (fun E ce q9 H locs hk0 _ _ _ _ _ _ _ => absurd hk hk0) (fun H locs _ hP hD hS => ?_)
  exact e_i hx hb hr hlocks hP hK hD hS dZ_behind_14 (Nat.le_of_ble_eq_true rfl) (Nat.le_of_ble_eq_true rfl)
set_option maxHeartbeats 4000000 in
set_option maxRecDepth 100000 in
theorem p_behind_bad (l : Launch) (D : va_G) (ad : Nat → Nat) (cI cJ : ClassId) (p0 p1 p2 p3 p4 : Nat × va_E) (h r1 f1 s1 : Nat) (R F S : Nat → Int32) (cn : Nat) (th : Int32) (ee n a b : Int32) (hl9 : l.stackTraces = false) (hR : rk_ok R cn) (hk : rk_kB ee n a b cn ≠ 0) : uI l yZ_behind wsZ_behind ({ frames := 8, cells := 1, slots := 6, locals := 180 } : Room) D ad [(cI, .int), (cJ, .long)] [.ref h, .int ee, .int n, .int a, .int b] (wM p0 p1 p2 p3 p4 h r1 f1 s1 cI R F S cn th) (wM p0 p1 p2 p3 p4 h r1 f1 s1 cI R F S cn (nI (rk_kB ee n a b cn))) (0) 1 6 := by
  unfold uI
  refine st_W (Qc := qI D [(cI, .int), (cJ, .long)] (wM p0 p1 p2 p3 p4 h r1 f1 s1 cI R F S cn (nI (rk_kB ee n a b cn))) 0) (hh := [(5, 14, 15, 19), (5, 14, 25, 26), (5, 14, 35, 41)]) (mc := 1) (ms := 6) (cc := cZ_behind) (maxL := 6) (ret := (some .int)) [.ref h, .int ee, .int n, .int a, .int b] (by decide) rfl (Nat.le_of_ble_eq_true rfl) (fun p en s m below meth c A ls hTab hx hb hr hlocks hml hts hown hA hS hP hK hD hX hl => ?_)
  have hown : s.vm.findClass RZ = some m.cls := hown
  have hl : lv_has ls 6 [(0, .ref h), (1, .int ee), (2, .int n), (3, .int a), (4, .int b)] := hl
  have hu : ∀ w ∈ u_ws RZ TZ 5, w ∈ wsZ_behind := fun w h => List.mem_cons_of_mem _ (wsZ0_in w h)
  have hF52 := hts (.fieldLink RZ 52 "RankRowsModel" "thrown" "I") (by decide +kernel)
  have SC : CallFix p m c cZ_behind 6 s ([.ref h, .int ee, .int n, .int a, .int b] : List Value).toArray wsZ_behind RZ := ⟨hx, hb, hml, hown, hts⟩
  refine lv_aload_n hx hb dZ_behind_0 rfl (lv_at hl 0 rfl) ?_
  refine lv_iconst (v := 0) hx hb dZ_behind_1 (by decide) ?_
  refine va_put (D := D) (ci := 1) (v := .int 0) (ty := .int) (C := RZ) (T := TZ) (N := 5) hx hb hts hu tyZ tyZ_ok nmZ hown hK hP hD hS 5 rfl rfl 4 (by decide) hF52 (fun _ h9 => h9) rfl (by decide +kernel) rfl rfl (Nat.le_of_ble_eq_true rfl) dZ_behind_2 (fun H locs hP hD hS => ?_)
  have hP : va_P D vwD (wM p0 p1 p2 p3 p4 h r1 f1 s1 cI R F S cn 0) H := hP
  have hD : va_D A (wM p0 p1 p2 p3 p4 h r1 f1 s1 cI R F S cn 0) := hD
  refine lv_aload_n hx hb dZ_behind_5 rfl (lv_at hl 0 rfl) ?_
  refine lv_iload_n hx hb dZ_behind_6 rfl (lv_at hl 1 rfl) ?_
  refine lv_iload_n hx hb dZ_behind_7 rfl (lv_at hl 2 rfl) ?_
  refine lv_iload_n hx hb dZ_behind_8 rfl (lv_at hl 3 rfl) ?_
  refine lv_iload hx hb dZ_behind_9 (lv_at hl 4 rfl) ?_
  refine r_c (rm := ({ frames := 7, cells := 1, slots := 6, locals := 140 } : Room)) (As := [.int ee, .int n, .int a, .int b]) (rest := []) (j_behind l D ad cI cJ p0 p1 p2 p3 p4 h r1 f1 s1 R F S cn 0 ee n a b hl9 hR) SC (cwV 4 hts gZ_behind_Z_behind0 rfl rfl rfl (by decide +kernel) ⟨Nat.le_of_ble_eq_true rfl, Nat.le_of_ble_eq_true rfl⟩) hP hK hD hS hA hX 5 rfl rfl rfl hl.1 rfl (Nat.le_of_ble_eq_true rfl) dZ_behind_11 ⟨Nat.le_of_ble_eq_true rfl, Nat.le_of_ble_eq_true rfl⟩ (fun E ce q9 H locs _ hE hP hD hS hce hcv hcl => ?_) (fun H locs hk0 _ _ _ => absurd hk0 hk)
  rcases rk_kB_r ee n a b cn with h9 | h9 | h9 | h9
  · exact absurd h9 hk
  · have hE : E = "java/lang/IllegalArgumentException" := by rw [hE, h9]; rfl
    subst hE
    refine vx_catch (own := RZ) (name := "java/lang/IllegalArgumentException") (E := "java/lang/IllegalArgumentException") hown [] ⟨5, 14, 15, 19⟩ [⟨5, 14, 25, 26⟩, ⟨5, 14, 35, 41⟩] (by rw [hTab]; rfl) (fun z hz => nomatch hz) (by decide) (by decide) (hts (.classLink RZ 19 "java/lang/IllegalArgumentException") (by decide +kernel)) (va_Nw.use rfl (hX.2.1 _ (List.mem_of_getElem? (i := 0) rfl))) hce hcv hcl ?_
    refine lv_astore (lv' := [(5, .ref q9), (0, .ref h), (1, .int ee), (2, .int n), (3, .int a), (4, .int b)]) hx hb dZ_behind_15 hl (by decide) rfl (fun ls hl => ?_)
    refine lv_aload_n hx hb dZ_behind_17 rfl (lv_at hl 1 rfl) ?_
    refine lv_iconst (v := 1) hx hb dZ_behind_18 (by decide) ?_
    refine va_put (D := D) (ci := 1) (v := .int 1) (ty := .int) (C := RZ) (T := TZ) (N := 5) hx hb hts hu tyZ tyZ_ok nmZ hown hK hP hD hS 5 rfl rfl 4 (by decide) hF52 (fun _ h9 => h9) rfl (by decide +kernel) rfl rfl (Nat.le_of_ble_eq_true rfl) dZ_behind_19 (fun H locs hP hD hS => ?_)
    have hP : va_P D vwD (wM p0 p1 p2 p3 p4 h r1 f1 s1 cI R F S cn 1) H := hP
    have hD : va_D A (wM p0 p1 p2 p3 p4 h r1 f1 s1 cI R F S cn 1) := hD
    refine lv_goto (tgt := 42) hx hb dZ_behind_22 (by decide) ?_
    refine lv_iconst (v := 0) hx hb dZ_behind_42 (by decide) ?_
    have hP : va_P D vwD (wM p0 p1 p2 p3 p4 h r1 f1 s1 cI R F S cn (nI (rk_kB ee n a b cn))) H := by rw [h9]; exact hP
    have hD : va_D A (wM p0 p1 p2 p3 p4 h r1 f1 s1 cI R F S cn (nI (rk_kB ee n a b cn))) := by rw [h9]; exact hD
    exact e_i hx hb hr hlocks hP hK hD hS dZ_behind_43 (Nat.le_of_ble_eq_true rfl) (Nat.le_of_ble_eq_true rfl)
  · have hE : E = "java/util/NoSuchElementException" := by rw [hE, h9]; rfl
    subst hE
    refine vx_catch (own := RZ) (name := "java/util/NoSuchElementException") (E := "java/util/NoSuchElementException") hown [⟨5, 14, 15, 19⟩] ⟨5, 14, 25, 26⟩ [⟨5, 14, 35, 41⟩] (by rw [hTab]; rfl) (by
        intro z hz
        rcases List.mem_cons.mp hz with rfl | hz
        · exact Or.inr ⟨by decide, "java/lang/IllegalArgumentException", hts (.classLink RZ 19 "java/lang/IllegalArgumentException") (by decide +kernel), hX.2.2.2.1.1⟩
        cases hz) (by decide) (by decide) (hts (.classLink RZ 26 "java/util/NoSuchElementException") (by decide +kernel)) (va_Nw.use rfl (hX.2.1 _ (List.mem_of_getElem? (i := 1) rfl))) hce hcv hcl ?_
    refine lv_astore (lv' := [(5, .ref q9), (0, .ref h), (1, .int ee), (2, .int n), (3, .int a), (4, .int b)]) hx hb dZ_behind_25 hl (by decide) rfl (fun ls hl => ?_)
    refine lv_aload_n hx hb dZ_behind_27 rfl (lv_at hl 1 rfl) ?_
    refine lv_iconst (v := 2) hx hb dZ_behind_28 (by decide) ?_
    refine va_put (D := D) (ci := 1) (v := .int 2) (ty := .int) (C := RZ) (T := TZ) (N := 5) hx hb hts hu tyZ tyZ_ok nmZ hown hK hP hD hS 5 rfl rfl 4 (by decide) hF52 (fun _ h9 => h9) rfl (by decide +kernel) rfl rfl (Nat.le_of_ble_eq_true rfl) dZ_behind_29 (fun H locs hP hD hS => ?_)
    have hP : va_P D vwD (wM p0 p1 p2 p3 p4 h r1 f1 s1 cI R F S cn 2) H := hP
    have hD : va_D A (wM p0 p1 p2 p3 p4 h r1 f1 s1 cI R F S cn 2) := hD
    refine lv_goto (tgt := 42) hx hb dZ_behind_32 (by decide) ?_
    refine lv_iconst (v := 0) hx hb dZ_behind_42 (by decide) ?_
    have hP : va_P D vwD (wM p0 p1 p2 p3 p4 h r1 f1 s1 cI R F S cn (nI (rk_kB ee n a b cn))) H := by rw [h9]; exact hP
    have hD : va_D A (wM p0 p1 p2 p3 p4 h r1 f1 s1 cI R F S cn (nI (rk_kB ee n a b cn))) := by rw [h9]; exact hD
    exact e_i hx hb hr hlocks hP hK hD hS dZ_behind_43 (Nat.le_of_ble_eq_true rfl) (Nat.le_of_ble_eq_true rfl)
  · have hE : E = "java/lang/IllegalStateException" := by rw [hE, h9]; rfl
    subst hE
    refine vx_catch (own := RZ) (name := "java/lang/IllegalStateException") (E := "java/lang/IllegalStateException") hown [⟨5, 14, 15, 19⟩, ⟨5, 14, 25, 26⟩] ⟨5, 14, 35, 41⟩ [] (by rw [hTab]; rfl) (by
        intro z hz
        rcases List.mem_cons.mp hz with rfl | hz
        · exact Or.inr ⟨by decide, "java/lang/IllegalArgumentException", hts (.classLink RZ 19 "java/lang/IllegalArgumentException") (by decide +kernel), hX.2.2.2.1.2.1⟩
        rcases List.mem_cons.mp hz with rfl | hz
        · exact Or.inr ⟨by decide, "java/util/NoSuchElementException", hts (.classLink RZ 26 "java/util/NoSuchElementException") (by decide +kernel), hX.2.2.2.1.2.2⟩
        cases hz) (by decide) (by decide) (hts (.classLink RZ 41 "java/lang/IllegalStateException") (by decide +kernel)) (va_Nw.use rfl (hX.2.1 _ (List.mem_of_getElem? (i := 2) rfl))) hce hcv hcl ?_
    refine lv_astore (lv' := [(5, .ref q9), (0, .ref h), (1, .int ee), (2, .int n), (3, .int a), (4, .int b)]) hx hb dZ_behind_35 hl (by decide) rfl (fun ls hl => ?_)
    refine lv_aload_n hx hb dZ_behind_37 rfl (lv_at hl 1 rfl) ?_
    refine lv_iconst (v := 3) hx hb dZ_behind_38 (by decide) ?_
    refine va_put (D := D) (ci := 1) (v := .int 3) (ty := .int) (C := RZ) (T := TZ) (N := 5) hx hb hts hu tyZ tyZ_ok nmZ hown hK hP hD hS 5 rfl rfl 4 (by decide) hF52 (fun _ h9 => h9) rfl (by decide +kernel) rfl rfl (Nat.le_of_ble_eq_true rfl) dZ_behind_39 (fun H locs hP hD hS => ?_)
    have hP : va_P D vwD (wM p0 p1 p2 p3 p4 h r1 f1 s1 cI R F S cn 3) H := hP
    have hD : va_D A (wM p0 p1 p2 p3 p4 h r1 f1 s1 cI R F S cn 3) := hD
    refine lv_iconst (v := 0) hx hb dZ_behind_42 (by decide) ?_
    have hP : va_P D vwD (wM p0 p1 p2 p3 p4 h r1 f1 s1 cI R F S cn (nI (rk_kB ee n a b cn))) H := by rw [h9]; exact hP
    have hD : va_D A (wM p0 p1 p2 p3 p4 h r1 f1 s1 cI R F S cn (nI (rk_kB ee n a b cn))) := by rw [h9]; exact hD
    exact e_i hx hb hr hlocks hP hK hD hS dZ_behind_43 (Nat.le_of_ble_eq_true rfl) (Nat.le_of_ble_eq_true rfl)
set_option maxHeartbeats 4000000 in
set_option maxRecDepth 100000 in
theorem p_before_ok (l : Launch) (D : va_G) (ad : Nat → Nat) (cI cJ : ClassId) (p0 p1 p2 p3 p4 : Nat × va_E) (h r1 f1 s1 : Nat) (R F S : Nat → Int32) (cn : Nat) (th : Int32) (ee a b : Int32) (hl9 : l.stackTraces = false) (hR : rk_ok R cn) (hk : rk_kF ee a b cn = 0) : uI l yZ_before wsZ_before ({ frames := 8, cells := 1, slots := 6, locals := 180 } : Room) D ad [(cI, .int), (cJ, .long)] [.ref h, .int ee, .int a, .int b] (wM p0 p1 p2 p3 p4 h r1 f1 s1 cI R F S cn th) (wM p0 p1 p2 p3 p4 h r1 f1 s1 cI (rk_in R cn (rk_pl R ee cn) 1) (rk_fl F cn 1 a) (rk_fl S cn 1 b) (cn + 1) 0) (nI (cn + 1) - 1) 1 6 := by
  unfold uI
  refine st_W (Qc := qI D [(cI, .int), (cJ, .long)] (wM p0 p1 p2 p3 p4 h r1 f1 s1 cI (rk_in R cn (rk_pl R ee cn) 1) (rk_fl F cn 1 a) (rk_fl S cn 1 b) (cn + 1) 0) (nI (cn + 1) - 1)) (hh := [(5, 12, 13, 19), (5, 12, 23, 26), (5, 12, 33, 41)]) (mc := 1) (ms := 6) (cc := cZ_before) (maxL := 5) (ret := (some .int)) [.ref h, .int ee, .int a, .int b] (by decide) rfl (Nat.le_of_ble_eq_true rfl) (fun p en s m below meth c A ls hTab hx hb hr hlocks hml hts hown hA hS hP hK hD hX hl => ?_)
  have hown : s.vm.findClass RZ = some m.cls := hown
  have hl : lv_has ls 5 [(0, .ref h), (1, .int ee), (2, .int a), (3, .int b)] := hl
  have hu : ∀ w ∈ u_ws RZ TZ 5, w ∈ wsZ_before := fun w h => List.mem_cons_of_mem _ (wsZ0_in w h)
  have hF52 := hts (.fieldLink RZ 52 "RankRowsModel" "thrown" "I") (by decide +kernel)
  have SC : CallFix p m c cZ_before 5 s ([.ref h, .int ee, .int a, .int b] : List Value).toArray wsZ_before RZ := ⟨hx, hb, hml, hown, hts⟩
  refine lv_aload_n hx hb dZ_before_0 rfl (lv_at hl 0 rfl) ?_
  refine lv_iconst (v := 0) hx hb dZ_before_1 (by decide) ?_
  refine va_put (D := D) (ci := 1) (v := .int 0) (ty := .int) (C := RZ) (T := TZ) (N := 5) hx hb hts hu tyZ tyZ_ok nmZ hown hK hP hD hS 5 rfl rfl 4 (by decide) hF52 (fun _ h9 => h9) rfl (by decide +kernel) rfl rfl (Nat.le_of_ble_eq_true rfl) dZ_before_2 (fun H locs hP hD hS => ?_)
  have hP : va_P D vwD (wM p0 p1 p2 p3 p4 h r1 f1 s1 cI R F S cn 0) H := hP
  have hD : va_D A (wM p0 p1 p2 p3 p4 h r1 f1 s1 cI R F S cn 0) := hD
  refine lv_aload_n hx hb dZ_before_5 rfl (lv_at hl 0 rfl) ?_
  refine lv_iload_n hx hb dZ_before_6 rfl (lv_at hl 1 rfl) ?_
  refine lv_iload_n hx hb dZ_before_7 rfl (lv_at hl 2 rfl) ?_
  refine lv_iload_n hx hb dZ_before_8 rfl (lv_at hl 3 rfl) ?_
  refine r_c (rm := ({ frames := 7, cells := 1, slots := 6, locals := 140 } : Room)) (As := [.int ee, .int a, .int b]) (rest := []) (j_before l D ad cI cJ p0 p1 p2 p3 p4 h r1 f1 s1 R F S cn 0 ee a b hl9 hR) SC (cwV 3 hts gZ_before_Z_before0 rfl rfl rfl (by decide +kernel) ⟨Nat.le_of_ble_eq_true rfl, Nat.le_of_ble_eq_true rfl⟩) hP hK hD hS hA hX 5 rfl rfl rfl hl.1 rfl (Nat.le_of_ble_eq_true rfl) dZ_before_9 ⟨Nat.le_of_ble_eq_true rfl, Nat.le_of_ble_eq_true rfl⟩ (fun E ce q9 H locs hk0 _ _ _ _ _ _ _ => absurd hk hk0) (fun H locs _ hP hD hS => ?_)
  exact e_i hx hb hr hlocks hP hK hD hS dZ_before_12 (Nat.le_of_ble_eq_true rfl) (Nat.le_of_ble_eq_true rfl)
set_option maxHeartbeats 4000000 in
set_option maxRecDepth 100000 in
theorem p_before_bad (l : Launch) (D : va_G) (ad : Nat → Nat) (cI cJ : ClassId) (p0 p1 p2 p3 p4 : Nat × va_E) (h r1 f1 s1 : Nat) (R F S : Nat → Int32) (cn : Nat) (th : Int32) (ee a b : Int32) (hl9 : l.stackTraces = false) (hR : rk_ok R cn) (hk : rk_kF ee a b cn ≠ 0) : uI l yZ_before wsZ_before ({ frames := 8, cells := 1, slots := 6, locals := 180 } : Room) D ad [(cI, .int), (cJ, .long)] [.ref h, .int ee, .int a, .int b] (wM p0 p1 p2 p3 p4 h r1 f1 s1 cI R F S cn th) (wM p0 p1 p2 p3 p4 h r1 f1 s1 cI R F S cn (nI (rk_kF ee a b cn))) (0) 1 6 := by
  unfold uI
  refine st_W (Qc := qI D [(cI, .int), (cJ, .long)] (wM p0 p1 p2 p3 p4 h r1 f1 s1 cI R F S cn (nI (rk_kF ee a b cn))) 0) (hh := [(5, 12, 13, 19), (5, 12, 23, 26), (5, 12, 33, 41)]) (mc := 1) (ms := 6) (cc := cZ_before) (maxL := 5) (ret := (some .int)) [.ref h, .int ee, .int a, .int b] (by decide) rfl (Nat.le_of_ble_eq_true rfl) (fun p en s m below meth c A ls hTab hx hb hr hlocks hml hts hown hA hS hP hK hD hX hl => ?_)
  have hown : s.vm.findClass RZ = some m.cls := hown
  have hl : lv_has ls 5 [(0, .ref h), (1, .int ee), (2, .int a), (3, .int b)] := hl
  have hu : ∀ w ∈ u_ws RZ TZ 5, w ∈ wsZ_before := fun w h => List.mem_cons_of_mem _ (wsZ0_in w h)
  have hF52 := hts (.fieldLink RZ 52 "RankRowsModel" "thrown" "I") (by decide +kernel)
  have SC : CallFix p m c cZ_before 5 s ([.ref h, .int ee, .int a, .int b] : List Value).toArray wsZ_before RZ := ⟨hx, hb, hml, hown, hts⟩
  refine lv_aload_n hx hb dZ_before_0 rfl (lv_at hl 0 rfl) ?_
  refine lv_iconst (v := 0) hx hb dZ_before_1 (by decide) ?_
  refine va_put (D := D) (ci := 1) (v := .int 0) (ty := .int) (C := RZ) (T := TZ) (N := 5) hx hb hts hu tyZ tyZ_ok nmZ hown hK hP hD hS 5 rfl rfl 4 (by decide) hF52 (fun _ h9 => h9) rfl (by decide +kernel) rfl rfl (Nat.le_of_ble_eq_true rfl) dZ_before_2 (fun H locs hP hD hS => ?_)
  have hP : va_P D vwD (wM p0 p1 p2 p3 p4 h r1 f1 s1 cI R F S cn 0) H := hP
  have hD : va_D A (wM p0 p1 p2 p3 p4 h r1 f1 s1 cI R F S cn 0) := hD
  refine lv_aload_n hx hb dZ_before_5 rfl (lv_at hl 0 rfl) ?_
  refine lv_iload_n hx hb dZ_before_6 rfl (lv_at hl 1 rfl) ?_
  refine lv_iload_n hx hb dZ_before_7 rfl (lv_at hl 2 rfl) ?_
  refine lv_iload_n hx hb dZ_before_8 rfl (lv_at hl 3 rfl) ?_
  refine r_c (rm := ({ frames := 7, cells := 1, slots := 6, locals := 140 } : Room)) (As := [.int ee, .int a, .int b]) (rest := []) (j_before l D ad cI cJ p0 p1 p2 p3 p4 h r1 f1 s1 R F S cn 0 ee a b hl9 hR) SC (cwV 3 hts gZ_before_Z_before0 rfl rfl rfl (by decide +kernel) ⟨Nat.le_of_ble_eq_true rfl, Nat.le_of_ble_eq_true rfl⟩) hP hK hD hS hA hX 5 rfl rfl rfl hl.1 rfl (Nat.le_of_ble_eq_true rfl) dZ_before_9 ⟨Nat.le_of_ble_eq_true rfl, Nat.le_of_ble_eq_true rfl⟩ (fun E ce q9 H locs _ hE hP hD hS hce hcv hcl => ?_) (fun H locs hk0 _ _ _ => absurd hk0 hk)
  rcases rk_kF_r ee a b cn with h9 | h9 | h9 | h9
  · exact absurd h9 hk
  · have hE : E = "java/lang/IllegalArgumentException" := by rw [hE, h9]; rfl
    subst hE
    refine vx_catch (own := RZ) (name := "java/lang/IllegalArgumentException") (E := "java/lang/IllegalArgumentException") hown [] ⟨5, 12, 13, 19⟩ [⟨5, 12, 23, 26⟩, ⟨5, 12, 33, 41⟩] (by rw [hTab]; rfl) (fun z hz => nomatch hz) (by decide) (by decide) (hts (.classLink RZ 19 "java/lang/IllegalArgumentException") (by decide +kernel)) (va_Nw.use rfl (hX.2.1 _ (List.mem_of_getElem? (i := 0) rfl))) hce hcv hcl ?_
    refine lv_astore (lv' := [(4, .ref q9), (0, .ref h), (1, .int ee), (2, .int a), (3, .int b)]) hx hb dZ_before_13 hl (by decide) rfl (fun ls hl => ?_)
    refine lv_aload_n hx hb dZ_before_15 rfl (lv_at hl 1 rfl) ?_
    refine lv_iconst (v := 1) hx hb dZ_before_16 (by decide) ?_
    refine va_put (D := D) (ci := 1) (v := .int 1) (ty := .int) (C := RZ) (T := TZ) (N := 5) hx hb hts hu tyZ tyZ_ok nmZ hown hK hP hD hS 5 rfl rfl 4 (by decide) hF52 (fun _ h9 => h9) rfl (by decide +kernel) rfl rfl (Nat.le_of_ble_eq_true rfl) dZ_before_17 (fun H locs hP hD hS => ?_)
    have hP : va_P D vwD (wM p0 p1 p2 p3 p4 h r1 f1 s1 cI R F S cn 1) H := hP
    have hD : va_D A (wM p0 p1 p2 p3 p4 h r1 f1 s1 cI R F S cn 1) := hD
    refine lv_goto (tgt := 40) hx hb dZ_before_20 (by decide) ?_
    refine lv_iconst (v := 0) hx hb dZ_before_40 (by decide) ?_
    have hP : va_P D vwD (wM p0 p1 p2 p3 p4 h r1 f1 s1 cI R F S cn (nI (rk_kF ee a b cn))) H := by rw [h9]; exact hP
    have hD : va_D A (wM p0 p1 p2 p3 p4 h r1 f1 s1 cI R F S cn (nI (rk_kF ee a b cn))) := by rw [h9]; exact hD
    exact e_i hx hb hr hlocks hP hK hD hS dZ_before_41 (Nat.le_of_ble_eq_true rfl) (Nat.le_of_ble_eq_true rfl)
  · have hE : E = "java/util/NoSuchElementException" := by rw [hE, h9]; rfl
    subst hE
    refine vx_catch (own := RZ) (name := "java/util/NoSuchElementException") (E := "java/util/NoSuchElementException") hown [⟨5, 12, 13, 19⟩] ⟨5, 12, 23, 26⟩ [⟨5, 12, 33, 41⟩] (by rw [hTab]; rfl) (by
        intro z hz
        rcases List.mem_cons.mp hz with rfl | hz
        · exact Or.inr ⟨by decide, "java/lang/IllegalArgumentException", hts (.classLink RZ 19 "java/lang/IllegalArgumentException") (by decide +kernel), hX.2.2.2.1.1⟩
        cases hz) (by decide) (by decide) (hts (.classLink RZ 26 "java/util/NoSuchElementException") (by decide +kernel)) (va_Nw.use rfl (hX.2.1 _ (List.mem_of_getElem? (i := 1) rfl))) hce hcv hcl ?_
    refine lv_astore (lv' := [(4, .ref q9), (0, .ref h), (1, .int ee), (2, .int a), (3, .int b)]) hx hb dZ_before_23 hl (by decide) rfl (fun ls hl => ?_)
    refine lv_aload_n hx hb dZ_before_25 rfl (lv_at hl 1 rfl) ?_
    refine lv_iconst (v := 2) hx hb dZ_before_26 (by decide) ?_
    refine va_put (D := D) (ci := 1) (v := .int 2) (ty := .int) (C := RZ) (T := TZ) (N := 5) hx hb hts hu tyZ tyZ_ok nmZ hown hK hP hD hS 5 rfl rfl 4 (by decide) hF52 (fun _ h9 => h9) rfl (by decide +kernel) rfl rfl (Nat.le_of_ble_eq_true rfl) dZ_before_27 (fun H locs hP hD hS => ?_)
    have hP : va_P D vwD (wM p0 p1 p2 p3 p4 h r1 f1 s1 cI R F S cn 2) H := hP
    have hD : va_D A (wM p0 p1 p2 p3 p4 h r1 f1 s1 cI R F S cn 2) := hD
    refine lv_goto (tgt := 40) hx hb dZ_before_30 (by decide) ?_
    refine lv_iconst (v := 0) hx hb dZ_before_40 (by decide) ?_
    have hP : va_P D vwD (wM p0 p1 p2 p3 p4 h r1 f1 s1 cI R F S cn (nI (rk_kF ee a b cn))) H := by rw [h9]; exact hP
    have hD : va_D A (wM p0 p1 p2 p3 p4 h r1 f1 s1 cI R F S cn (nI (rk_kF ee a b cn))) := by rw [h9]; exact hD
    exact e_i hx hb hr hlocks hP hK hD hS dZ_before_41 (Nat.le_of_ble_eq_true rfl) (Nat.le_of_ble_eq_true rfl)
  · have hE : E = "java/lang/IllegalStateException" := by rw [hE, h9]; rfl
    subst hE
    refine vx_catch (own := RZ) (name := "java/lang/IllegalStateException") (E := "java/lang/IllegalStateException") hown [⟨5, 12, 13, 19⟩, ⟨5, 12, 23, 26⟩] ⟨5, 12, 33, 41⟩ [] (by rw [hTab]; rfl) (by
        intro z hz
        rcases List.mem_cons.mp hz with rfl | hz
        · exact Or.inr ⟨by decide, "java/lang/IllegalArgumentException", hts (.classLink RZ 19 "java/lang/IllegalArgumentException") (by decide +kernel), hX.2.2.2.1.2.1⟩
        rcases List.mem_cons.mp hz with rfl | hz
        · exact Or.inr ⟨by decide, "java/util/NoSuchElementException", hts (.classLink RZ 26 "java/util/NoSuchElementException") (by decide +kernel), hX.2.2.2.1.2.2⟩
        cases hz) (by decide) (by decide) (hts (.classLink RZ 41 "java/lang/IllegalStateException") (by decide +kernel)) (va_Nw.use rfl (hX.2.1 _ (List.mem_of_getElem? (i := 2) rfl))) hce hcv hcl ?_
    refine lv_astore (lv' := [(4, .ref q9), (0, .ref h), (1, .int ee), (2, .int a), (3, .int b)]) hx hb dZ_before_33 hl (by decide) rfl (fun ls hl => ?_)
    refine lv_aload_n hx hb dZ_before_35 rfl (lv_at hl 1 rfl) ?_
    refine lv_iconst (v := 3) hx hb dZ_before_36 (by decide) ?_
    refine va_put (D := D) (ci := 1) (v := .int 3) (ty := .int) (C := RZ) (T := TZ) (N := 5) hx hb hts hu tyZ tyZ_ok nmZ hown hK hP hD hS 5 rfl rfl 4 (by decide) hF52 (fun _ h9 => h9) rfl (by decide +kernel) rfl rfl (Nat.le_of_ble_eq_true rfl) dZ_before_37 (fun H locs hP hD hS => ?_)
    have hP : va_P D vwD (wM p0 p1 p2 p3 p4 h r1 f1 s1 cI R F S cn 3) H := hP
    have hD : va_D A (wM p0 p1 p2 p3 p4 h r1 f1 s1 cI R F S cn 3) := hD
    refine lv_iconst (v := 0) hx hb dZ_before_40 (by decide) ?_
    have hP : va_P D vwD (wM p0 p1 p2 p3 p4 h r1 f1 s1 cI R F S cn (nI (rk_kF ee a b cn))) H := by rw [h9]; exact hP
    have hD : va_D A (wM p0 p1 p2 p3 p4 h r1 f1 s1 cI R F S cn (nI (rk_kF ee a b cn))) := by rw [h9]; exact hD
    exact e_i hx hb hr hlocks hP hK hD hS dZ_before_41 (Nat.le_of_ble_eq_true rfl) (Nat.le_of_ble_eq_true rfl)
set_option maxHeartbeats 4000000 in
set_option maxRecDepth 100000 in
theorem p_weigh_ok (l : Launch) (D : va_G) (ad : Nat → Nat) (cI cJ : ClassId) (p0 p1 p2 p3 p4 : Nat × va_E) (h r1 f1 s1 : Nat) (R F S : Nat → Int32) (cn : Nat) (th : Int32) (ee a b : Int32) (hl9 : l.stackTraces = false) (hR : rk_ok R cn) (hk : rk_kW ee a b cn = 0) : uI l yZ_weigh wsZ_weigh ({ frames := 8, cells := 1, slots := 6, locals := 180 } : Room) D ad [(cI, .int), (cJ, .long)] [.ref h, .int ee, .int a, .int b] (wM p0 p1 p2 p3 p4 h r1 f1 s1 cI R F S cn th) (wM p0 p1 p2 p3 p4 h r1 f1 s1 cI R (upd F ee.toNatClampNeg a) (upd S ee.toNatClampNeg b) cn 0) (F ee.toNatClampNeg) 1 6 := by
  unfold uI
  refine st_W (Qc := qI D [(cI, .int), (cJ, .long)] (wM p0 p1 p2 p3 p4 h r1 f1 s1 cI R (upd F ee.toNatClampNeg a) (upd S ee.toNatClampNeg b) cn 0) (F ee.toNatClampNeg)) (hh := [(5, 12, 13, 19), (5, 12, 23, 26)]) (mc := 1) (ms := 6) (cc := cZ_weigh) (maxL := 5) (ret := (some .int)) [.ref h, .int ee, .int a, .int b] (by decide) rfl (Nat.le_of_ble_eq_true rfl) (fun p en s m below meth c A ls hTab hx hb hr hlocks hml hts hown hA hS hP hK hD hX hl => ?_)
  have hown : s.vm.findClass RZ = some m.cls := hown
  have hl : lv_has ls 5 [(0, .ref h), (1, .int ee), (2, .int a), (3, .int b)] := hl
  have hu : ∀ w ∈ u_ws RZ TZ 5, w ∈ wsZ_weigh := fun w h => List.mem_cons_of_mem _ (wsZ0_in w h)
  have hF52 := hts (.fieldLink RZ 52 "RankRowsModel" "thrown" "I") (by decide +kernel)
  have SC : CallFix p m c cZ_weigh 5 s ([.ref h, .int ee, .int a, .int b] : List Value).toArray wsZ_weigh RZ := ⟨hx, hb, hml, hown, hts⟩
  refine lv_aload_n hx hb dZ_weigh_0 rfl (lv_at hl 0 rfl) ?_
  refine lv_iconst (v := 0) hx hb dZ_weigh_1 (by decide) ?_
  refine va_put (D := D) (ci := 1) (v := .int 0) (ty := .int) (C := RZ) (T := TZ) (N := 5) hx hb hts hu tyZ tyZ_ok nmZ hown hK hP hD hS 5 rfl rfl 4 (by decide) hF52 (fun _ h9 => h9) rfl (by decide +kernel) rfl rfl (Nat.le_of_ble_eq_true rfl) dZ_weigh_2 (fun H locs hP hD hS => ?_)
  have hP : va_P D vwD (wM p0 p1 p2 p3 p4 h r1 f1 s1 cI R F S cn 0) H := hP
  have hD : va_D A (wM p0 p1 p2 p3 p4 h r1 f1 s1 cI R F S cn 0) := hD
  refine lv_aload_n hx hb dZ_weigh_5 rfl (lv_at hl 0 rfl) ?_
  refine lv_iload_n hx hb dZ_weigh_6 rfl (lv_at hl 1 rfl) ?_
  refine lv_iload_n hx hb dZ_weigh_7 rfl (lv_at hl 2 rfl) ?_
  refine lv_iload_n hx hb dZ_weigh_8 rfl (lv_at hl 3 rfl) ?_
  refine r_c (rm := ({ frames := 7, cells := 1, slots := 6, locals := 140 } : Room)) (As := [.int ee, .int a, .int b]) (rest := []) (j_weigh l D ad cI cJ p0 p1 p2 p3 p4 h r1 f1 s1 R F S cn 0 ee a b hl9 hR) SC (cwV 3 hts gZ_weigh_Z_weigh0 rfl rfl rfl (by decide +kernel) ⟨Nat.le_of_ble_eq_true rfl, Nat.le_of_ble_eq_true rfl⟩) hP hK hD hS hA hX 5 rfl rfl rfl hl.1 rfl (Nat.le_of_ble_eq_true rfl) dZ_weigh_9 ⟨Nat.le_of_ble_eq_true rfl, Nat.le_of_ble_eq_true rfl⟩ (fun E ce q9 H locs hk0 _ _ _ _ _ _ _ => absurd hk hk0) (fun H locs _ hP hD hS => ?_)
  exact e_i hx hb hr hlocks hP hK hD hS dZ_weigh_12 (Nat.le_of_ble_eq_true rfl) (Nat.le_of_ble_eq_true rfl)
set_option maxHeartbeats 4000000 in
set_option maxRecDepth 100000 in
theorem p_weigh_bad (l : Launch) (D : va_G) (ad : Nat → Nat) (cI cJ : ClassId) (p0 p1 p2 p3 p4 : Nat × va_E) (h r1 f1 s1 : Nat) (R F S : Nat → Int32) (cn : Nat) (th : Int32) (ee a b : Int32) (hl9 : l.stackTraces = false) (hR : rk_ok R cn) (hk : rk_kW ee a b cn ≠ 0) : uI l yZ_weigh wsZ_weigh ({ frames := 8, cells := 1, slots := 6, locals := 180 } : Room) D ad [(cI, .int), (cJ, .long)] [.ref h, .int ee, .int a, .int b] (wM p0 p1 p2 p3 p4 h r1 f1 s1 cI R F S cn th) (wM p0 p1 p2 p3 p4 h r1 f1 s1 cI R F S cn (nI (rk_kW ee a b cn))) (0) 1 6 := by
  unfold uI
  refine st_W (Qc := qI D [(cI, .int), (cJ, .long)] (wM p0 p1 p2 p3 p4 h r1 f1 s1 cI R F S cn (nI (rk_kW ee a b cn))) 0) (hh := [(5, 12, 13, 19), (5, 12, 23, 26)]) (mc := 1) (ms := 6) (cc := cZ_weigh) (maxL := 5) (ret := (some .int)) [.ref h, .int ee, .int a, .int b] (by decide) rfl (Nat.le_of_ble_eq_true rfl) (fun p en s m below meth c A ls hTab hx hb hr hlocks hml hts hown hA hS hP hK hD hX hl => ?_)
  have hown : s.vm.findClass RZ = some m.cls := hown
  have hl : lv_has ls 5 [(0, .ref h), (1, .int ee), (2, .int a), (3, .int b)] := hl
  have hu : ∀ w ∈ u_ws RZ TZ 5, w ∈ wsZ_weigh := fun w h => List.mem_cons_of_mem _ (wsZ0_in w h)
  have hF52 := hts (.fieldLink RZ 52 "RankRowsModel" "thrown" "I") (by decide +kernel)
  have SC : CallFix p m c cZ_weigh 5 s ([.ref h, .int ee, .int a, .int b] : List Value).toArray wsZ_weigh RZ := ⟨hx, hb, hml, hown, hts⟩
  refine lv_aload_n hx hb dZ_weigh_0 rfl (lv_at hl 0 rfl) ?_
  refine lv_iconst (v := 0) hx hb dZ_weigh_1 (by decide) ?_
  refine va_put (D := D) (ci := 1) (v := .int 0) (ty := .int) (C := RZ) (T := TZ) (N := 5) hx hb hts hu tyZ tyZ_ok nmZ hown hK hP hD hS 5 rfl rfl 4 (by decide) hF52 (fun _ h9 => h9) rfl (by decide +kernel) rfl rfl (Nat.le_of_ble_eq_true rfl) dZ_weigh_2 (fun H locs hP hD hS => ?_)
  have hP : va_P D vwD (wM p0 p1 p2 p3 p4 h r1 f1 s1 cI R F S cn 0) H := hP
  have hD : va_D A (wM p0 p1 p2 p3 p4 h r1 f1 s1 cI R F S cn 0) := hD
  refine lv_aload_n hx hb dZ_weigh_5 rfl (lv_at hl 0 rfl) ?_
  refine lv_iload_n hx hb dZ_weigh_6 rfl (lv_at hl 1 rfl) ?_
  refine lv_iload_n hx hb dZ_weigh_7 rfl (lv_at hl 2 rfl) ?_
  refine lv_iload_n hx hb dZ_weigh_8 rfl (lv_at hl 3 rfl) ?_
  refine r_c (rm := ({ frames := 7, cells := 1, slots := 6, locals := 140 } : Room)) (As := [.int ee, .int a, .int b]) (rest := []) (j_weigh l D ad cI cJ p0 p1 p2 p3 p4 h r1 f1 s1 R F S cn 0 ee a b hl9 hR) SC (cwV 3 hts gZ_weigh_Z_weigh0 rfl rfl rfl (by decide +kernel) ⟨Nat.le_of_ble_eq_true rfl, Nat.le_of_ble_eq_true rfl⟩) hP hK hD hS hA hX 5 rfl rfl rfl hl.1 rfl (Nat.le_of_ble_eq_true rfl) dZ_weigh_9 ⟨Nat.le_of_ble_eq_true rfl, Nat.le_of_ble_eq_true rfl⟩ (fun E ce q9 H locs _ hE hP hD hS hce hcv hcl => ?_) (fun H locs hk0 _ _ _ => absurd hk0 hk)
  rcases rk_kW_r ee a b cn with h9 | h9 | h9
  · exact absurd h9 hk
  · have hE : E = "java/lang/IllegalArgumentException" := by rw [hE, h9]; rfl
    subst hE
    refine vx_catch (own := RZ) (name := "java/lang/IllegalArgumentException") (E := "java/lang/IllegalArgumentException") hown [] ⟨5, 12, 13, 19⟩ [⟨5, 12, 23, 26⟩] (by rw [hTab]; rfl) (fun z hz => nomatch hz) (by decide) (by decide) (hts (.classLink RZ 19 "java/lang/IllegalArgumentException") (by decide +kernel)) (va_Nw.use rfl (hX.2.1 _ (List.mem_of_getElem? (i := 0) rfl))) hce hcv hcl ?_
    refine lv_astore (lv' := [(4, .ref q9), (0, .ref h), (1, .int ee), (2, .int a), (3, .int b)]) hx hb dZ_weigh_13 hl (by decide) rfl (fun ls hl => ?_)
    refine lv_aload_n hx hb dZ_weigh_15 rfl (lv_at hl 1 rfl) ?_
    refine lv_iconst (v := 1) hx hb dZ_weigh_16 (by decide) ?_
    refine va_put (D := D) (ci := 1) (v := .int 1) (ty := .int) (C := RZ) (T := TZ) (N := 5) hx hb hts hu tyZ tyZ_ok nmZ hown hK hP hD hS 5 rfl rfl 4 (by decide) hF52 (fun _ h9 => h9) rfl (by decide +kernel) rfl rfl (Nat.le_of_ble_eq_true rfl) dZ_weigh_17 (fun H locs hP hD hS => ?_)
    have hP : va_P D vwD (wM p0 p1 p2 p3 p4 h r1 f1 s1 cI R F S cn 1) H := hP
    have hD : va_D A (wM p0 p1 p2 p3 p4 h r1 f1 s1 cI R F S cn 1) := hD
    refine lv_goto (tgt := 30) hx hb dZ_weigh_20 (by decide) ?_
    refine lv_iconst (v := 0) hx hb dZ_weigh_30 (by decide) ?_
    have hP : va_P D vwD (wM p0 p1 p2 p3 p4 h r1 f1 s1 cI R F S cn (nI (rk_kW ee a b cn))) H := by rw [h9]; exact hP
    have hD : va_D A (wM p0 p1 p2 p3 p4 h r1 f1 s1 cI R F S cn (nI (rk_kW ee a b cn))) := by rw [h9]; exact hD
    exact e_i hx hb hr hlocks hP hK hD hS dZ_weigh_31 (Nat.le_of_ble_eq_true rfl) (Nat.le_of_ble_eq_true rfl)
  · have hE : E = "java/util/NoSuchElementException" := by rw [hE, h9]; rfl
    subst hE
    refine vx_catch (own := RZ) (name := "java/util/NoSuchElementException") (E := "java/util/NoSuchElementException") hown [⟨5, 12, 13, 19⟩] ⟨5, 12, 23, 26⟩ [] (by rw [hTab]; rfl) (by
        intro z hz
        rcases List.mem_cons.mp hz with rfl | hz
        · exact Or.inr ⟨by decide, "java/lang/IllegalArgumentException", hts (.classLink RZ 19 "java/lang/IllegalArgumentException") (by decide +kernel), hX.2.2.2.1.1⟩
        cases hz) (by decide) (by decide) (hts (.classLink RZ 26 "java/util/NoSuchElementException") (by decide +kernel)) (va_Nw.use rfl (hX.2.1 _ (List.mem_of_getElem? (i := 1) rfl))) hce hcv hcl ?_
    refine lv_astore (lv' := [(4, .ref q9), (0, .ref h), (1, .int ee), (2, .int a), (3, .int b)]) hx hb dZ_weigh_23 hl (by decide) rfl (fun ls hl => ?_)
    refine lv_aload_n hx hb dZ_weigh_25 rfl (lv_at hl 1 rfl) ?_
    refine lv_iconst (v := 2) hx hb dZ_weigh_26 (by decide) ?_
    refine va_put (D := D) (ci := 1) (v := .int 2) (ty := .int) (C := RZ) (T := TZ) (N := 5) hx hb hts hu tyZ tyZ_ok nmZ hown hK hP hD hS 5 rfl rfl 4 (by decide) hF52 (fun _ h9 => h9) rfl (by decide +kernel) rfl rfl (Nat.le_of_ble_eq_true rfl) dZ_weigh_27 (fun H locs hP hD hS => ?_)
    have hP : va_P D vwD (wM p0 p1 p2 p3 p4 h r1 f1 s1 cI R F S cn 2) H := hP
    have hD : va_D A (wM p0 p1 p2 p3 p4 h r1 f1 s1 cI R F S cn 2) := hD
    refine lv_iconst (v := 0) hx hb dZ_weigh_30 (by decide) ?_
    have hP : va_P D vwD (wM p0 p1 p2 p3 p4 h r1 f1 s1 cI R F S cn (nI (rk_kW ee a b cn))) H := by rw [h9]; exact hP
    have hD : va_D A (wM p0 p1 p2 p3 p4 h r1 f1 s1 cI R F S cn (nI (rk_kW ee a b cn))) := by rw [h9]; exact hD
    exact e_i hx hb hr hlocks hP hK hD hS dZ_weigh_31 (Nat.le_of_ble_eq_true rfl) (Nat.le_of_ble_eq_true rfl)
set_option maxHeartbeats 4000000 in
set_option maxRecDepth 100000 in
theorem p_find_ok (l : Launch) (D : va_G) (ad : Nat → Nat) (cI cJ : ClassId) (p0 p1 p2 p3 p4 : Nat × va_E) (h r1 f1 s1 : Nat) (R F S : Nat → Int32) (cn : Nat) (th : Int32) (q : Int32) (hl9 : l.stackTraces = false) (hR : rk_ok R cn) (hk : rk_kD R F q cn = 0) : uI l yZ_find wsZ_find ({ frames := 8, cells := 1, slots := 6, locals := 180 } : Room) D ad [(cI, .int), (cJ, .long)] [.ref h, .int q] (wM p0 p1 p2 p3 p4 h r1 f1 s1 cI R F S cn th) (wM p0 p1 p2 p3 p4 h r1 f1 s1 cI R F S cn 0) (R (rk_fd R F q cn)) 1 6 := by
  unfold uI
  refine st_W (Qc := qI D [(cI, .int), (cJ, .long)] (wM p0 p1 p2 p3 p4 h r1 f1 s1 cI R F S cn 0) (R (rk_fd R F q cn))) (hh := [(5, 10, 11, 26)]) (mc := 1) (ms := 6) (cc := cZ_find) (maxL := 3) (ret := (some .int)) [.ref h, .int q] (by decide) rfl (Nat.le_of_ble_eq_true rfl) (fun p en s m below meth c A ls hTab hx hb hr hlocks hml hts hown hA hS hP hK hD hX hl => ?_)
  have hown : s.vm.findClass RZ = some m.cls := hown
  have hl : lv_has ls 3 [(0, .ref h), (1, .int q)] := hl
  have hu : ∀ w ∈ u_ws RZ TZ 5, w ∈ wsZ_find := fun w h => List.mem_cons_of_mem _ (wsZ0_in w h)
  have hF52 := hts (.fieldLink RZ 52 "RankRowsModel" "thrown" "I") (by decide +kernel)
  have SC : CallFix p m c cZ_find 3 s ([.ref h, .int q] : List Value).toArray wsZ_find RZ := ⟨hx, hb, hml, hown, hts⟩
  refine lv_aload_n hx hb dZ_find_0 rfl (lv_at hl 0 rfl) ?_
  refine lv_iconst (v := 0) hx hb dZ_find_1 (by decide) ?_
  refine va_put (D := D) (ci := 1) (v := .int 0) (ty := .int) (C := RZ) (T := TZ) (N := 5) hx hb hts hu tyZ tyZ_ok nmZ hown hK hP hD hS 5 rfl rfl 4 (by decide) hF52 (fun _ h9 => h9) rfl (by decide +kernel) rfl rfl (Nat.le_of_ble_eq_true rfl) dZ_find_2 (fun H locs hP hD hS => ?_)
  have hP : va_P D vwD (wM p0 p1 p2 p3 p4 h r1 f1 s1 cI R F S cn 0) H := hP
  have hD : va_D A (wM p0 p1 p2 p3 p4 h r1 f1 s1 cI R F S cn 0) := hD
  refine lv_aload_n hx hb dZ_find_5 rfl (lv_at hl 0 rfl) ?_
  refine lv_iload_n hx hb dZ_find_6 rfl (lv_at hl 1 rfl) ?_
  refine r_c (rm := ({ frames := 7, cells := 1, slots := 6, locals := 140 } : Room)) (As := [.int q]) (rest := []) (j_find l D ad cI cJ p0 p1 p2 p3 p4 h r1 f1 s1 R F S cn 0 q hl9 hR) SC (cwV 1 hts gZ_find_Z_find0 rfl rfl rfl (by decide +kernel) ⟨Nat.le_of_ble_eq_true rfl, Nat.le_of_ble_eq_true rfl⟩) hP hK hD hS hA hX 5 rfl rfl rfl hl.1 rfl (Nat.le_of_ble_eq_true rfl) dZ_find_7 ⟨Nat.le_of_ble_eq_true rfl, Nat.le_of_ble_eq_true rfl⟩ (fun E ce q9 H locs hk0 _ _ _ _ _ _ _ => absurd hk hk0) (fun H locs _ hP hD hS => ?_)
  exact e_i hx hb hr hlocks hP hK hD hS dZ_find_10 (Nat.le_of_ble_eq_true rfl) (Nat.le_of_ble_eq_true rfl)
set_option maxHeartbeats 4000000 in
set_option maxRecDepth 100000 in
theorem p_find_bad (l : Launch) (D : va_G) (ad : Nat → Nat) (cI cJ : ClassId) (p0 p1 p2 p3 p4 : Nat × va_E) (h r1 f1 s1 : Nat) (R F S : Nat → Int32) (cn : Nat) (th : Int32) (q : Int32) (hl9 : l.stackTraces = false) (hR : rk_ok R cn) (hk : rk_kD R F q cn ≠ 0) : uI l yZ_find wsZ_find ({ frames := 8, cells := 1, slots := 6, locals := 180 } : Room) D ad [(cI, .int), (cJ, .long)] [.ref h, .int q] (wM p0 p1 p2 p3 p4 h r1 f1 s1 cI R F S cn th) (wM p0 p1 p2 p3 p4 h r1 f1 s1 cI R F S cn (1)) (0) 1 6 := by
  unfold uI
  refine st_W (Qc := qI D [(cI, .int), (cJ, .long)] (wM p0 p1 p2 p3 p4 h r1 f1 s1 cI R F S cn (1)) 0) (hh := [(5, 10, 11, 26)]) (mc := 1) (ms := 6) (cc := cZ_find) (maxL := 3) (ret := (some .int)) [.ref h, .int q] (by decide) rfl (Nat.le_of_ble_eq_true rfl) (fun p en s m below meth c A ls hTab hx hb hr hlocks hml hts hown hA hS hP hK hD hX hl => ?_)
  have hown : s.vm.findClass RZ = some m.cls := hown
  have hl : lv_has ls 3 [(0, .ref h), (1, .int q)] := hl
  have hu : ∀ w ∈ u_ws RZ TZ 5, w ∈ wsZ_find := fun w h => List.mem_cons_of_mem _ (wsZ0_in w h)
  have hF52 := hts (.fieldLink RZ 52 "RankRowsModel" "thrown" "I") (by decide +kernel)
  have SC : CallFix p m c cZ_find 3 s ([.ref h, .int q] : List Value).toArray wsZ_find RZ := ⟨hx, hb, hml, hown, hts⟩
  refine lv_aload_n hx hb dZ_find_0 rfl (lv_at hl 0 rfl) ?_
  refine lv_iconst (v := 0) hx hb dZ_find_1 (by decide) ?_
  refine va_put (D := D) (ci := 1) (v := .int 0) (ty := .int) (C := RZ) (T := TZ) (N := 5) hx hb hts hu tyZ tyZ_ok nmZ hown hK hP hD hS 5 rfl rfl 4 (by decide) hF52 (fun _ h9 => h9) rfl (by decide +kernel) rfl rfl (Nat.le_of_ble_eq_true rfl) dZ_find_2 (fun H locs hP hD hS => ?_)
  have hP : va_P D vwD (wM p0 p1 p2 p3 p4 h r1 f1 s1 cI R F S cn 0) H := hP
  have hD : va_D A (wM p0 p1 p2 p3 p4 h r1 f1 s1 cI R F S cn 0) := hD
  refine lv_aload_n hx hb dZ_find_5 rfl (lv_at hl 0 rfl) ?_
  refine lv_iload_n hx hb dZ_find_6 rfl (lv_at hl 1 rfl) ?_
  refine r_c (rm := ({ frames := 7, cells := 1, slots := 6, locals := 140 } : Room)) (As := [.int q]) (rest := []) (j_find l D ad cI cJ p0 p1 p2 p3 p4 h r1 f1 s1 R F S cn 0 q hl9 hR) SC (cwV 1 hts gZ_find_Z_find0 rfl rfl rfl (by decide +kernel) ⟨Nat.le_of_ble_eq_true rfl, Nat.le_of_ble_eq_true rfl⟩) hP hK hD hS hA hX 5 rfl rfl rfl hl.1 rfl (Nat.le_of_ble_eq_true rfl) dZ_find_7 ⟨Nat.le_of_ble_eq_true rfl, Nat.le_of_ble_eq_true rfl⟩ (fun E ce q9 H locs _ hE hP hD hS hce hcv hcl => ?_) (fun H locs hk0 _ _ _ => absurd hk0 hk)
  rcases rk_kD_r R F q cn with h9 | h9
  · exact absurd h9 hk
  · have hE : E = "java/util/NoSuchElementException" := by rw [hE, h9]; rfl
    subst hE
    refine vx_catch (own := RZ) (name := "java/util/NoSuchElementException") (E := "java/util/NoSuchElementException") hown [] ⟨5, 10, 11, 26⟩ [] (by rw [hTab]; rfl) (fun z hz => nomatch hz) (by decide) (by decide) (hts (.classLink RZ 26 "java/util/NoSuchElementException") (by decide +kernel)) (va_Nw.use rfl (hX.2.1 _ (List.mem_of_getElem? (i := 1) rfl))) hce hcv hcl ?_
    refine lv_astore_n (lv' := [(2, .ref q9), (0, .ref h), (1, .int q)]) hx hb dZ_find_11 rfl hl (by decide) rfl (fun ls hl => ?_)
    refine lv_aload_n hx hb dZ_find_12 rfl (lv_at hl 1 rfl) ?_
    refine lv_iconst (v := 1) hx hb dZ_find_13 (by decide) ?_
    refine va_put (D := D) (ci := 1) (v := .int 1) (ty := .int) (C := RZ) (T := TZ) (N := 5) hx hb hts hu tyZ tyZ_ok nmZ hown hK hP hD hS 5 rfl rfl 4 (by decide) hF52 (fun _ h9 => h9) rfl (by decide +kernel) rfl rfl (Nat.le_of_ble_eq_true rfl) dZ_find_14 (fun H locs hP hD hS => ?_)
    have hP : va_P D vwD (wM p0 p1 p2 p3 p4 h r1 f1 s1 cI R F S cn 1) H := hP
    have hD : va_D A (wM p0 p1 p2 p3 p4 h r1 f1 s1 cI R F S cn 1) := hD
    refine lv_iconst (v := 0) hx hb dZ_find_17 (by decide) ?_
    exact e_i hx hb hr hlocks hP hK hD hS dZ_find_18 (Nat.le_of_ble_eq_true rfl) (Nat.le_of_ble_eq_true rfl)
set_option maxHeartbeats 4000000 in
set_option maxRecDepth 100000 in
theorem p_sum_ok (l : Launch) (D : va_G) (ad : Nat → Nat) (cI cJ : ClassId) (p0 p1 p2 p3 p4 : Nat × va_E) (h r1 f1 s1 : Nat) (R F S : Nat → Int32) (cn : Nat) (th : Int32) (ee z : Int32) (hl9 : l.stackTraces = false) (hR : rk_ok R cn) (hk : rk_kS ee z cn = 0) : uI l yZ_sum wsZ_sum ({ frames := 8, cells := 1, slots := 6, locals := 180 } : Room) D ad [(cI, .int), (cJ, .long)] [.ref h, .int ee, .int z] (wM p0 p1 p2 p3 p4 h r1 f1 s1 cI R F S cn th) (wM p0 p1 p2 p3 p4 h r1 f1 s1 cI R F S cn 0) (rk_sm R (if z = 0 then F else S) (if ee = -1 then cn else rk_pl R ee cn)) 1 6 := by
  unfold uI
  refine st_W (Qc := qI D [(cI, .int), (cJ, .long)] (wM p0 p1 p2 p3 p4 h r1 f1 s1 cI R F S cn 0) (rk_sm R (if z = 0 then F else S) (if ee = -1 then cn else rk_pl R ee cn))) (hh := [(5, 11, 12, 19), (5, 11, 21, 26)]) (mc := 1) (ms := 6) (cc := cZ_sum) (maxL := 4) (ret := (some .int)) [.ref h, .int ee, .int z] (by decide) rfl (Nat.le_of_ble_eq_true rfl) (fun p en s m below meth c A ls hTab hx hb hr hlocks hml hts hown hA hS hP hK hD hX hl => ?_)
  have hown : s.vm.findClass RZ = some m.cls := hown
  have hl : lv_has ls 4 [(0, .ref h), (1, .int ee), (2, .int z)] := hl
  have hu : ∀ w ∈ u_ws RZ TZ 5, w ∈ wsZ_sum := fun w h => List.mem_cons_of_mem _ (wsZ0_in w h)
  have hF52 := hts (.fieldLink RZ 52 "RankRowsModel" "thrown" "I") (by decide +kernel)
  have SC : CallFix p m c cZ_sum 4 s ([.ref h, .int ee, .int z] : List Value).toArray wsZ_sum RZ := ⟨hx, hb, hml, hown, hts⟩
  refine lv_aload_n hx hb dZ_sum_0 rfl (lv_at hl 0 rfl) ?_
  refine lv_iconst (v := 0) hx hb dZ_sum_1 (by decide) ?_
  refine va_put (D := D) (ci := 1) (v := .int 0) (ty := .int) (C := RZ) (T := TZ) (N := 5) hx hb hts hu tyZ tyZ_ok nmZ hown hK hP hD hS 5 rfl rfl 4 (by decide) hF52 (fun _ h9 => h9) rfl (by decide +kernel) rfl rfl (Nat.le_of_ble_eq_true rfl) dZ_sum_2 (fun H locs hP hD hS => ?_)
  have hP : va_P D vwD (wM p0 p1 p2 p3 p4 h r1 f1 s1 cI R F S cn 0) H := hP
  have hD : va_D A (wM p0 p1 p2 p3 p4 h r1 f1 s1 cI R F S cn 0) := hD
  refine lv_aload_n hx hb dZ_sum_5 rfl (lv_at hl 0 rfl) ?_
  refine lv_iload_n hx hb dZ_sum_6 rfl (lv_at hl 1 rfl) ?_
  refine lv_iload_n hx hb dZ_sum_7 rfl (lv_at hl 2 rfl) ?_
  refine r_c (rm := ({ frames := 7, cells := 1, slots := 6, locals := 140 } : Room)) (As := [.int ee, .int z]) (rest := []) (j_sum l D ad cI cJ p0 p1 p2 p3 p4 h r1 f1 s1 R F S cn 0 ee z hl9 hR) SC (cwV 2 hts gZ_sum_Z_sum0 rfl rfl rfl (by decide +kernel) ⟨Nat.le_of_ble_eq_true rfl, Nat.le_of_ble_eq_true rfl⟩) hP hK hD hS hA hX 5 rfl rfl rfl hl.1 rfl (Nat.le_of_ble_eq_true rfl) dZ_sum_8 ⟨Nat.le_of_ble_eq_true rfl, Nat.le_of_ble_eq_true rfl⟩ (fun E ce q9 H locs hk0 _ _ _ _ _ _ _ => absurd hk hk0) (fun H locs _ hP hD hS => ?_)
  exact e_i hx hb hr hlocks hP hK hD hS dZ_sum_11 (Nat.le_of_ble_eq_true rfl) (Nat.le_of_ble_eq_true rfl)
set_option maxHeartbeats 4000000 in
set_option maxRecDepth 100000 in
theorem p_sum_bad (l : Launch) (D : va_G) (ad : Nat → Nat) (cI cJ : ClassId) (p0 p1 p2 p3 p4 : Nat × va_E) (h r1 f1 s1 : Nat) (R F S : Nat → Int32) (cn : Nat) (th : Int32) (ee z : Int32) (hl9 : l.stackTraces = false) (hR : rk_ok R cn) (hk : rk_kS ee z cn ≠ 0) : uI l yZ_sum wsZ_sum ({ frames := 8, cells := 1, slots := 6, locals := 180 } : Room) D ad [(cI, .int), (cJ, .long)] [.ref h, .int ee, .int z] (wM p0 p1 p2 p3 p4 h r1 f1 s1 cI R F S cn th) (wM p0 p1 p2 p3 p4 h r1 f1 s1 cI R F S cn (nI (rk_kS ee z cn))) (0) 1 6 := by
  unfold uI
  refine st_W (Qc := qI D [(cI, .int), (cJ, .long)] (wM p0 p1 p2 p3 p4 h r1 f1 s1 cI R F S cn (nI (rk_kS ee z cn))) 0) (hh := [(5, 11, 12, 19), (5, 11, 21, 26)]) (mc := 1) (ms := 6) (cc := cZ_sum) (maxL := 4) (ret := (some .int)) [.ref h, .int ee, .int z] (by decide) rfl (Nat.le_of_ble_eq_true rfl) (fun p en s m below meth c A ls hTab hx hb hr hlocks hml hts hown hA hS hP hK hD hX hl => ?_)
  have hown : s.vm.findClass RZ = some m.cls := hown
  have hl : lv_has ls 4 [(0, .ref h), (1, .int ee), (2, .int z)] := hl
  have hu : ∀ w ∈ u_ws RZ TZ 5, w ∈ wsZ_sum := fun w h => List.mem_cons_of_mem _ (wsZ0_in w h)
  have hF52 := hts (.fieldLink RZ 52 "RankRowsModel" "thrown" "I") (by decide +kernel)
  have SC : CallFix p m c cZ_sum 4 s ([.ref h, .int ee, .int z] : List Value).toArray wsZ_sum RZ := ⟨hx, hb, hml, hown, hts⟩
  refine lv_aload_n hx hb dZ_sum_0 rfl (lv_at hl 0 rfl) ?_
  refine lv_iconst (v := 0) hx hb dZ_sum_1 (by decide) ?_
  refine va_put (D := D) (ci := 1) (v := .int 0) (ty := .int) (C := RZ) (T := TZ) (N := 5) hx hb hts hu tyZ tyZ_ok nmZ hown hK hP hD hS 5 rfl rfl 4 (by decide) hF52 (fun _ h9 => h9) rfl (by decide +kernel) rfl rfl (Nat.le_of_ble_eq_true rfl) dZ_sum_2 (fun H locs hP hD hS => ?_)
  have hP : va_P D vwD (wM p0 p1 p2 p3 p4 h r1 f1 s1 cI R F S cn 0) H := hP
  have hD : va_D A (wM p0 p1 p2 p3 p4 h r1 f1 s1 cI R F S cn 0) := hD
  refine lv_aload_n hx hb dZ_sum_5 rfl (lv_at hl 0 rfl) ?_
  refine lv_iload_n hx hb dZ_sum_6 rfl (lv_at hl 1 rfl) ?_
  refine lv_iload_n hx hb dZ_sum_7 rfl (lv_at hl 2 rfl) ?_
  refine r_c (rm := ({ frames := 7, cells := 1, slots := 6, locals := 140 } : Room)) (As := [.int ee, .int z]) (rest := []) (j_sum l D ad cI cJ p0 p1 p2 p3 p4 h r1 f1 s1 R F S cn 0 ee z hl9 hR) SC (cwV 2 hts gZ_sum_Z_sum0 rfl rfl rfl (by decide +kernel) ⟨Nat.le_of_ble_eq_true rfl, Nat.le_of_ble_eq_true rfl⟩) hP hK hD hS hA hX 5 rfl rfl rfl hl.1 rfl (Nat.le_of_ble_eq_true rfl) dZ_sum_8 ⟨Nat.le_of_ble_eq_true rfl, Nat.le_of_ble_eq_true rfl⟩ (fun E ce q9 H locs _ hE hP hD hS hce hcv hcl => ?_) (fun H locs hk0 _ _ _ => absurd hk0 hk)
  rcases rk_kS_r ee z cn with h9 | h9 | h9
  · exact absurd h9 hk
  · have hE : E = "java/lang/IllegalArgumentException" := by rw [hE, h9]; rfl
    subst hE
    refine vx_catch (own := RZ) (name := "java/lang/IllegalArgumentException") (E := "java/lang/IllegalArgumentException") hown [] ⟨5, 11, 12, 19⟩ [⟨5, 11, 21, 26⟩] (by rw [hTab]; rfl) (fun z hz => nomatch hz) (by decide) (by decide) (hts (.classLink RZ 19 "java/lang/IllegalArgumentException") (by decide +kernel)) (va_Nw.use rfl (hX.2.1 _ (List.mem_of_getElem? (i := 0) rfl))) hce hcv hcl ?_
    refine lv_astore_n (lv' := [(3, .ref q9), (0, .ref h), (1, .int ee), (2, .int z)]) hx hb dZ_sum_12 rfl hl (by decide) rfl (fun ls hl => ?_)
    refine lv_aload_n hx hb dZ_sum_13 rfl (lv_at hl 1 rfl) ?_
    refine lv_iconst (v := 1) hx hb dZ_sum_14 (by decide) ?_
    refine va_put (D := D) (ci := 1) (v := .int 1) (ty := .int) (C := RZ) (T := TZ) (N := 5) hx hb hts hu tyZ tyZ_ok nmZ hown hK hP hD hS 5 rfl rfl 4 (by decide) hF52 (fun _ h9 => h9) rfl (by decide +kernel) rfl rfl (Nat.le_of_ble_eq_true rfl) dZ_sum_15 (fun H locs hP hD hS => ?_)
    have hP : va_P D vwD (wM p0 p1 p2 p3 p4 h r1 f1 s1 cI R F S cn 1) H := hP
    have hD : va_D A (wM p0 p1 p2 p3 p4 h r1 f1 s1 cI R F S cn 1) := hD
    refine lv_goto (tgt := 27) hx hb dZ_sum_18 (by decide) ?_
    refine lv_iconst (v := 0) hx hb dZ_sum_27 (by decide) ?_
    have hP : va_P D vwD (wM p0 p1 p2 p3 p4 h r1 f1 s1 cI R F S cn (nI (rk_kS ee z cn))) H := by rw [h9]; exact hP
    have hD : va_D A (wM p0 p1 p2 p3 p4 h r1 f1 s1 cI R F S cn (nI (rk_kS ee z cn))) := by rw [h9]; exact hD
    exact e_i hx hb hr hlocks hP hK hD hS dZ_sum_28 (Nat.le_of_ble_eq_true rfl) (Nat.le_of_ble_eq_true rfl)
  · have hE : E = "java/util/NoSuchElementException" := by rw [hE, h9]; rfl
    subst hE
    refine vx_catch (own := RZ) (name := "java/util/NoSuchElementException") (E := "java/util/NoSuchElementException") hown [⟨5, 11, 12, 19⟩] ⟨5, 11, 21, 26⟩ [] (by rw [hTab]; rfl) (by
        intro z hz
        rcases List.mem_cons.mp hz with rfl | hz
        · exact Or.inr ⟨by decide, "java/lang/IllegalArgumentException", hts (.classLink RZ 19 "java/lang/IllegalArgumentException") (by decide +kernel), hX.2.2.2.1.1⟩
        cases hz) (by decide) (by decide) (hts (.classLink RZ 26 "java/util/NoSuchElementException") (by decide +kernel)) (va_Nw.use rfl (hX.2.1 _ (List.mem_of_getElem? (i := 1) rfl))) hce hcv hcl ?_
    refine lv_astore_n (lv' := [(3, .ref q9), (0, .ref h), (1, .int ee), (2, .int z)]) hx hb dZ_sum_21 rfl hl (by decide) rfl (fun ls hl => ?_)
    refine lv_aload_n hx hb dZ_sum_22 rfl (lv_at hl 1 rfl) ?_
    refine lv_iconst (v := 2) hx hb dZ_sum_23 (by decide) ?_
    refine va_put (D := D) (ci := 1) (v := .int 2) (ty := .int) (C := RZ) (T := TZ) (N := 5) hx hb hts hu tyZ tyZ_ok nmZ hown hK hP hD hS 5 rfl rfl 4 (by decide) hF52 (fun _ h9 => h9) rfl (by decide +kernel) rfl rfl (Nat.le_of_ble_eq_true rfl) dZ_sum_24 (fun H locs hP hD hS => ?_)
    have hP : va_P D vwD (wM p0 p1 p2 p3 p4 h r1 f1 s1 cI R F S cn 2) H := hP
    have hD : va_D A (wM p0 p1 p2 p3 p4 h r1 f1 s1 cI R F S cn 2) := hD
    refine lv_iconst (v := 0) hx hb dZ_sum_27 (by decide) ?_
    have hP : va_P D vwD (wM p0 p1 p2 p3 p4 h r1 f1 s1 cI R F S cn (nI (rk_kS ee z cn))) H := by rw [h9]; exact hP
    have hD : va_D A (wM p0 p1 p2 p3 p4 h r1 f1 s1 cI R F S cn (nI (rk_kS ee z cn))) := by rw [h9]; exact hD
    exact e_i hx hb hr hlocks hP hK hD hS dZ_sum_28 (Nat.le_of_ble_eq_true rfl) (Nat.le_of_ble_eq_true rfl)
set_option maxHeartbeats 4000000 in
set_option maxRecDepth 100000 in
theorem p_next_ok (l : Launch) (D : va_G) (ad : Nat → Nat) (cI cJ : ClassId) (p0 p1 p2 p3 p4 : Nat × va_E) (h r1 f1 s1 : Nat) (R F S : Nat → Int32) (cn : Nat) (th : Int32) (ee : Int32) (hl9 : l.stackTraces = false) (hR : rk_ok R cn) (hk : rk_kN R ee cn = 0) : uI l yZ_next wsZ_next ({ frames := 8, cells := 1, slots := 6, locals := 180 } : Room) D ad [(cI, .int), (cJ, .long)] [.ref h, .int ee] (wM p0 p1 p2 p3 p4 h r1 f1 s1 cI R F S cn th) (wM p0 p1 p2 p3 p4 h r1 f1 s1 cI R F S cn 0) (R (rk_pb R ee cn)) 1 6 := by
  unfold uI
  refine st_W (Qc := qI D [(cI, .int), (cJ, .long)] (wM p0 p1 p2 p3 p4 h r1 f1 s1 cI R F S cn 0) (R (rk_pb R ee cn))) (hh := [(5, 10, 11, 26)]) (mc := 1) (ms := 6) (cc := cZ_next) (maxL := 3) (ret := (some .int)) [.ref h, .int ee] (by decide) rfl (Nat.le_of_ble_eq_true rfl) (fun p en s m below meth c A ls hTab hx hb hr hlocks hml hts hown hA hS hP hK hD hX hl => ?_)
  have hown : s.vm.findClass RZ = some m.cls := hown
  have hl : lv_has ls 3 [(0, .ref h), (1, .int ee)] := hl
  have hu : ∀ w ∈ u_ws RZ TZ 5, w ∈ wsZ_next := fun w h => List.mem_cons_of_mem _ (wsZ0_in w h)
  have hF52 := hts (.fieldLink RZ 52 "RankRowsModel" "thrown" "I") (by decide +kernel)
  have SC : CallFix p m c cZ_next 3 s ([.ref h, .int ee] : List Value).toArray wsZ_next RZ := ⟨hx, hb, hml, hown, hts⟩
  refine lv_aload_n hx hb dZ_next_0 rfl (lv_at hl 0 rfl) ?_
  refine lv_iconst (v := 0) hx hb dZ_next_1 (by decide) ?_
  refine va_put (D := D) (ci := 1) (v := .int 0) (ty := .int) (C := RZ) (T := TZ) (N := 5) hx hb hts hu tyZ tyZ_ok nmZ hown hK hP hD hS 5 rfl rfl 4 (by decide) hF52 (fun _ h9 => h9) rfl (by decide +kernel) rfl rfl (Nat.le_of_ble_eq_true rfl) dZ_next_2 (fun H locs hP hD hS => ?_)
  have hP : va_P D vwD (wM p0 p1 p2 p3 p4 h r1 f1 s1 cI R F S cn 0) H := hP
  have hD : va_D A (wM p0 p1 p2 p3 p4 h r1 f1 s1 cI R F S cn 0) := hD
  refine lv_aload_n hx hb dZ_next_5 rfl (lv_at hl 0 rfl) ?_
  refine lv_iload_n hx hb dZ_next_6 rfl (lv_at hl 1 rfl) ?_
  refine r_c (rm := ({ frames := 7, cells := 1, slots := 6, locals := 140 } : Room)) (As := [.int ee]) (rest := []) (j_next l D ad cI cJ p0 p1 p2 p3 p4 h r1 f1 s1 R F S cn 0 ee hl9 hR) SC (cwV 1 hts gZ_next_Z_next0 rfl rfl rfl (by decide +kernel) ⟨Nat.le_of_ble_eq_true rfl, Nat.le_of_ble_eq_true rfl⟩) hP hK hD hS hA hX 5 rfl rfl rfl hl.1 rfl (Nat.le_of_ble_eq_true rfl) dZ_next_7 ⟨Nat.le_of_ble_eq_true rfl, Nat.le_of_ble_eq_true rfl⟩ (fun E ce q9 H locs hk0 _ _ _ _ _ _ _ => absurd hk hk0) (fun H locs _ hP hD hS => ?_)
  exact e_i hx hb hr hlocks hP hK hD hS dZ_next_10 (Nat.le_of_ble_eq_true rfl) (Nat.le_of_ble_eq_true rfl)
set_option maxHeartbeats 4000000 in
set_option maxRecDepth 100000 in
theorem p_next_bad (l : Launch) (D : va_G) (ad : Nat → Nat) (cI cJ : ClassId) (p0 p1 p2 p3 p4 : Nat × va_E) (h r1 f1 s1 : Nat) (R F S : Nat → Int32) (cn : Nat) (th : Int32) (ee : Int32) (hl9 : l.stackTraces = false) (hR : rk_ok R cn) (hk : rk_kN R ee cn ≠ 0) : uI l yZ_next wsZ_next ({ frames := 8, cells := 1, slots := 6, locals := 180 } : Room) D ad [(cI, .int), (cJ, .long)] [.ref h, .int ee] (wM p0 p1 p2 p3 p4 h r1 f1 s1 cI R F S cn th) (wM p0 p1 p2 p3 p4 h r1 f1 s1 cI R F S cn (1)) (0) 1 6 := by
  unfold uI
  refine st_W (Qc := qI D [(cI, .int), (cJ, .long)] (wM p0 p1 p2 p3 p4 h r1 f1 s1 cI R F S cn (1)) 0) (hh := [(5, 10, 11, 26)]) (mc := 1) (ms := 6) (cc := cZ_next) (maxL := 3) (ret := (some .int)) [.ref h, .int ee] (by decide) rfl (Nat.le_of_ble_eq_true rfl) (fun p en s m below meth c A ls hTab hx hb hr hlocks hml hts hown hA hS hP hK hD hX hl => ?_)
  have hown : s.vm.findClass RZ = some m.cls := hown
  have hl : lv_has ls 3 [(0, .ref h), (1, .int ee)] := hl
  have hu : ∀ w ∈ u_ws RZ TZ 5, w ∈ wsZ_next := fun w h => List.mem_cons_of_mem _ (wsZ0_in w h)
  have hF52 := hts (.fieldLink RZ 52 "RankRowsModel" "thrown" "I") (by decide +kernel)
  have SC : CallFix p m c cZ_next 3 s ([.ref h, .int ee] : List Value).toArray wsZ_next RZ := ⟨hx, hb, hml, hown, hts⟩
  refine lv_aload_n hx hb dZ_next_0 rfl (lv_at hl 0 rfl) ?_
  refine lv_iconst (v := 0) hx hb dZ_next_1 (by decide) ?_
  refine va_put (D := D) (ci := 1) (v := .int 0) (ty := .int) (C := RZ) (T := TZ) (N := 5) hx hb hts hu tyZ tyZ_ok nmZ hown hK hP hD hS 5 rfl rfl 4 (by decide) hF52 (fun _ h9 => h9) rfl (by decide +kernel) rfl rfl (Nat.le_of_ble_eq_true rfl) dZ_next_2 (fun H locs hP hD hS => ?_)
  have hP : va_P D vwD (wM p0 p1 p2 p3 p4 h r1 f1 s1 cI R F S cn 0) H := hP
  have hD : va_D A (wM p0 p1 p2 p3 p4 h r1 f1 s1 cI R F S cn 0) := hD
  refine lv_aload_n hx hb dZ_next_5 rfl (lv_at hl 0 rfl) ?_
  refine lv_iload_n hx hb dZ_next_6 rfl (lv_at hl 1 rfl) ?_
  refine r_c (rm := ({ frames := 7, cells := 1, slots := 6, locals := 140 } : Room)) (As := [.int ee]) (rest := []) (j_next l D ad cI cJ p0 p1 p2 p3 p4 h r1 f1 s1 R F S cn 0 ee hl9 hR) SC (cwV 1 hts gZ_next_Z_next0 rfl rfl rfl (by decide +kernel) ⟨Nat.le_of_ble_eq_true rfl, Nat.le_of_ble_eq_true rfl⟩) hP hK hD hS hA hX 5 rfl rfl rfl hl.1 rfl (Nat.le_of_ble_eq_true rfl) dZ_next_7 ⟨Nat.le_of_ble_eq_true rfl, Nat.le_of_ble_eq_true rfl⟩ (fun E ce q9 H locs _ hE hP hD hS hce hcv hcl => ?_) (fun H locs hk0 _ _ _ => absurd hk0 hk)
  rcases rk_kN_r R ee cn with h9 | h9
  · exact absurd h9 hk
  · have hE : E = "java/util/NoSuchElementException" := by rw [hE, h9]; rfl
    subst hE
    refine vx_catch (own := RZ) (name := "java/util/NoSuchElementException") (E := "java/util/NoSuchElementException") hown [] ⟨5, 10, 11, 26⟩ [] (by rw [hTab]; rfl) (fun z hz => nomatch hz) (by decide) (by decide) (hts (.classLink RZ 26 "java/util/NoSuchElementException") (by decide +kernel)) (va_Nw.use rfl (hX.2.1 _ (List.mem_of_getElem? (i := 1) rfl))) hce hcv hcl ?_
    refine lv_astore_n (lv' := [(2, .ref q9), (0, .ref h), (1, .int ee)]) hx hb dZ_next_11 rfl hl (by decide) rfl (fun ls hl => ?_)
    refine lv_aload_n hx hb dZ_next_12 rfl (lv_at hl 1 rfl) ?_
    refine lv_iconst (v := 1) hx hb dZ_next_13 (by decide) ?_
    refine va_put (D := D) (ci := 1) (v := .int 1) (ty := .int) (C := RZ) (T := TZ) (N := 5) hx hb hts hu tyZ tyZ_ok nmZ hown hK hP hD hS 5 rfl rfl 4 (by decide) hF52 (fun _ h9 => h9) rfl (by decide +kernel) rfl rfl (Nat.le_of_ble_eq_true rfl) dZ_next_14 (fun H locs hP hD hS => ?_)
    have hP : va_P D vwD (wM p0 p1 p2 p3 p4 h r1 f1 s1 cI R F S cn 1) H := hP
    have hD : va_D A (wM p0 p1 p2 p3 p4 h r1 f1 s1 cI R F S cn 1) := hD
    refine lv_iconst (v := 0) hx hb dZ_next_17 (by decide) ?_
    exact e_i hx hb hr hlocks hP hK hD hS dZ_next_18 (Nat.le_of_ble_eq_true rfl) (Nat.le_of_ble_eq_true rfl)
set_option maxHeartbeats 4000000 in
set_option maxRecDepth 100000 in
theorem p_place_ok (l : Launch) (D : va_G) (ad : Nat → Nat) (cI cJ : ClassId) (p0 p1 p2 p3 p4 : Nat × va_E) (h r1 f1 s1 : Nat) (R F S : Nat → Int32) (cn : Nat) (th : Int32) (ee : Int32) (hl9 : l.stackTraces = false) (hR : rk_ok R cn) (hk : rk_kP ee cn = 0) : uI l yZ_place wsZ_place ({ frames := 8, cells := 1, slots := 6, locals := 180 } : Room) D ad [(cI, .int), (cJ, .long)] [.ref h, .int ee] (wM p0 p1 p2 p3 p4 h r1 f1 s1 cI R F S cn th) (wM p0 p1 p2 p3 p4 h r1 f1 s1 cI R F S cn 0) (nI (rk_pl R ee cn)) 1 6 := by
  unfold uI
  refine st_W (Qc := qI D [(cI, .int), (cJ, .long)] (wM p0 p1 p2 p3 p4 h r1 f1 s1 cI R F S cn 0) (nI (rk_pl R ee cn))) (hh := [(5, 10, 11, 26)]) (mc := 1) (ms := 6) (cc := cZ_place) (maxL := 3) (ret := (some .int)) [.ref h, .int ee] (by decide) rfl (Nat.le_of_ble_eq_true rfl) (fun p en s m below meth c A ls hTab hx hb hr hlocks hml hts hown hA hS hP hK hD hX hl => ?_)
  have hown : s.vm.findClass RZ = some m.cls := hown
  have hl : lv_has ls 3 [(0, .ref h), (1, .int ee)] := hl
  have hu : ∀ w ∈ u_ws RZ TZ 5, w ∈ wsZ_place := fun w h => List.mem_cons_of_mem _ (wsZ0_in w h)
  have hF52 := hts (.fieldLink RZ 52 "RankRowsModel" "thrown" "I") (by decide +kernel)
  have SC : CallFix p m c cZ_place 3 s ([.ref h, .int ee] : List Value).toArray wsZ_place RZ := ⟨hx, hb, hml, hown, hts⟩
  refine lv_aload_n hx hb dZ_place_0 rfl (lv_at hl 0 rfl) ?_
  refine lv_iconst (v := 0) hx hb dZ_place_1 (by decide) ?_
  refine va_put (D := D) (ci := 1) (v := .int 0) (ty := .int) (C := RZ) (T := TZ) (N := 5) hx hb hts hu tyZ tyZ_ok nmZ hown hK hP hD hS 5 rfl rfl 4 (by decide) hF52 (fun _ h9 => h9) rfl (by decide +kernel) rfl rfl (Nat.le_of_ble_eq_true rfl) dZ_place_2 (fun H locs hP hD hS => ?_)
  have hP : va_P D vwD (wM p0 p1 p2 p3 p4 h r1 f1 s1 cI R F S cn 0) H := hP
  have hD : va_D A (wM p0 p1 p2 p3 p4 h r1 f1 s1 cI R F S cn 0) := hD
  refine lv_aload_n hx hb dZ_place_5 rfl (lv_at hl 0 rfl) ?_
  refine lv_iload_n hx hb dZ_place_6 rfl (lv_at hl 1 rfl) ?_
  refine r_c (rm := ({ frames := 7, cells := 1, slots := 6, locals := 140 } : Room)) (As := [.int ee]) (rest := []) (j_place l D ad cI cJ p0 p1 p2 p3 p4 h r1 f1 s1 R F S cn 0 ee hl9 hR) SC (cwV 1 hts gZ_place_Z_place0 rfl rfl rfl (by decide +kernel) ⟨Nat.le_of_ble_eq_true rfl, Nat.le_of_ble_eq_true rfl⟩) hP hK hD hS hA hX 5 rfl rfl rfl hl.1 rfl (Nat.le_of_ble_eq_true rfl) dZ_place_7 ⟨Nat.le_of_ble_eq_true rfl, Nat.le_of_ble_eq_true rfl⟩ (fun E ce q9 H locs hk0 _ _ _ _ _ _ _ => absurd hk hk0) (fun H locs _ hP hD hS => ?_)
  exact e_i hx hb hr hlocks hP hK hD hS dZ_place_10 (Nat.le_of_ble_eq_true rfl) (Nat.le_of_ble_eq_true rfl)
set_option maxHeartbeats 4000000 in
set_option maxRecDepth 100000 in
theorem p_place_bad (l : Launch) (D : va_G) (ad : Nat → Nat) (cI cJ : ClassId) (p0 p1 p2 p3 p4 : Nat × va_E) (h r1 f1 s1 : Nat) (R F S : Nat → Int32) (cn : Nat) (th : Int32) (ee : Int32) (hl9 : l.stackTraces = false) (hR : rk_ok R cn) (hk : rk_kP ee cn ≠ 0) : uI l yZ_place wsZ_place ({ frames := 8, cells := 1, slots := 6, locals := 180 } : Room) D ad [(cI, .int), (cJ, .long)] [.ref h, .int ee] (wM p0 p1 p2 p3 p4 h r1 f1 s1 cI R F S cn th) (wM p0 p1 p2 p3 p4 h r1 f1 s1 cI R F S cn (1)) (0) 1 6 := by
  unfold uI
  refine st_W (Qc := qI D [(cI, .int), (cJ, .long)] (wM p0 p1 p2 p3 p4 h r1 f1 s1 cI R F S cn (1)) 0) (hh := [(5, 10, 11, 26)]) (mc := 1) (ms := 6) (cc := cZ_place) (maxL := 3) (ret := (some .int)) [.ref h, .int ee] (by decide) rfl (Nat.le_of_ble_eq_true rfl) (fun p en s m below meth c A ls hTab hx hb hr hlocks hml hts hown hA hS hP hK hD hX hl => ?_)
  have hown : s.vm.findClass RZ = some m.cls := hown
  have hl : lv_has ls 3 [(0, .ref h), (1, .int ee)] := hl
  have hu : ∀ w ∈ u_ws RZ TZ 5, w ∈ wsZ_place := fun w h => List.mem_cons_of_mem _ (wsZ0_in w h)
  have hF52 := hts (.fieldLink RZ 52 "RankRowsModel" "thrown" "I") (by decide +kernel)
  have SC : CallFix p m c cZ_place 3 s ([.ref h, .int ee] : List Value).toArray wsZ_place RZ := ⟨hx, hb, hml, hown, hts⟩
  refine lv_aload_n hx hb dZ_place_0 rfl (lv_at hl 0 rfl) ?_
  refine lv_iconst (v := 0) hx hb dZ_place_1 (by decide) ?_
  refine va_put (D := D) (ci := 1) (v := .int 0) (ty := .int) (C := RZ) (T := TZ) (N := 5) hx hb hts hu tyZ tyZ_ok nmZ hown hK hP hD hS 5 rfl rfl 4 (by decide) hF52 (fun _ h9 => h9) rfl (by decide +kernel) rfl rfl (Nat.le_of_ble_eq_true rfl) dZ_place_2 (fun H locs hP hD hS => ?_)
  have hP : va_P D vwD (wM p0 p1 p2 p3 p4 h r1 f1 s1 cI R F S cn 0) H := hP
  have hD : va_D A (wM p0 p1 p2 p3 p4 h r1 f1 s1 cI R F S cn 0) := hD
  refine lv_aload_n hx hb dZ_place_5 rfl (lv_at hl 0 rfl) ?_
  refine lv_iload_n hx hb dZ_place_6 rfl (lv_at hl 1 rfl) ?_
  refine r_c (rm := ({ frames := 7, cells := 1, slots := 6, locals := 140 } : Room)) (As := [.int ee]) (rest := []) (j_place l D ad cI cJ p0 p1 p2 p3 p4 h r1 f1 s1 R F S cn 0 ee hl9 hR) SC (cwV 1 hts gZ_place_Z_place0 rfl rfl rfl (by decide +kernel) ⟨Nat.le_of_ble_eq_true rfl, Nat.le_of_ble_eq_true rfl⟩) hP hK hD hS hA hX 5 rfl rfl rfl hl.1 rfl (Nat.le_of_ble_eq_true rfl) dZ_place_7 ⟨Nat.le_of_ble_eq_true rfl, Nat.le_of_ble_eq_true rfl⟩ (fun E ce q9 H locs _ hE hP hD hS hce hcv hcl => ?_) (fun H locs hk0 _ _ _ => absurd hk0 hk)
  rcases rk_kP_r ee cn with h9 | h9
  · exact absurd h9 hk
  · have hE : E = "java/util/NoSuchElementException" := by rw [hE, h9]; rfl
    subst hE
    refine vx_catch (own := RZ) (name := "java/util/NoSuchElementException") (E := "java/util/NoSuchElementException") hown [] ⟨5, 10, 11, 26⟩ [] (by rw [hTab]; rfl) (fun z hz => nomatch hz) (by decide) (by decide) (hts (.classLink RZ 26 "java/util/NoSuchElementException") (by decide +kernel)) (va_Nw.use rfl (hX.2.1 _ (List.mem_of_getElem? (i := 1) rfl))) hce hcv hcl ?_
    refine lv_astore_n (lv' := [(2, .ref q9), (0, .ref h), (1, .int ee)]) hx hb dZ_place_11 rfl hl (by decide) rfl (fun ls hl => ?_)
    refine lv_aload_n hx hb dZ_place_12 rfl (lv_at hl 1 rfl) ?_
    refine lv_iconst (v := 1) hx hb dZ_place_13 (by decide) ?_
    refine va_put (D := D) (ci := 1) (v := .int 1) (ty := .int) (C := RZ) (T := TZ) (N := 5) hx hb hts hu tyZ tyZ_ok nmZ hown hK hP hD hS 5 rfl rfl 4 (by decide) hF52 (fun _ h9 => h9) rfl (by decide +kernel) rfl rfl (Nat.le_of_ble_eq_true rfl) dZ_place_14 (fun H locs hP hD hS => ?_)
    have hP : va_P D vwD (wM p0 p1 p2 p3 p4 h r1 f1 s1 cI R F S cn 1) H := hP
    have hD : va_D A (wM p0 p1 p2 p3 p4 h r1 f1 s1 cI R F S cn 1) := hD
    refine lv_iconst (v := 0) hx hb dZ_place_17 (by decide) ?_
    exact e_i hx hb hr hlocks hP hK hD hS dZ_place_18 (Nat.le_of_ble_eq_true rfl) (Nat.le_of_ble_eq_true rfl)
set_option maxHeartbeats 4000000 in
set_option maxRecDepth 100000 in
theorem p_entries (l : Launch) (D : va_G) (ad : Nat → Nat) (cI cJ : ClassId) (p0 p1 p2 p3 p4 : Nat × va_E) (h r1 f1 s1 : Nat) (R F S : Nat → Int32) (cn : Nat) (th : Int32)  : uI l yZ_entries wsZ_entries ({ frames := 1, cells := 0, slots := 0, locals := 40 } : Room) D ad [(cI, .int), (cJ, .long)] [.ref h] (wM p0 p1 p2 p3 p4 h r1 f1 s1 cI R F S cn th) (wM p0 p1 p2 p3 p4 h r1 f1 s1 cI R F S cn 0) (nI cn) 0 0 := by
  unfold uI
  refine st_M (Qc := qI D [(cI, .int), (cJ, .long)] (wM p0 p1 p2 p3 p4 h r1 f1 s1 cI R F S cn 0) (nI cn)) (mc := 0) (ms := 0) (cc := cZ_entries) (maxL := 1) (ret := (some .int)) [.ref h] (by decide) rfl (Nat.le_of_ble_eq_true rfl) (fun p en s m below meth c A ls hx hb hr hlocks hml hts hown hA hS hP hK hD hX hl => ?_)
  have hown : s.vm.findClass RZ = some m.cls := hown
  have hl : lv_has ls 1 [(0, .ref h)] := hl
  have hu : ∀ w ∈ u_ws RZ TZ 5, w ∈ wsZ_entries := fun w h => List.mem_cons_of_mem _ (wsZ0_in w h)
  have hF52 := hts (.fieldLink RZ 52 "RankRowsModel" "thrown" "I") (by decide +kernel)
  have SC : CallFix p m c cZ_entries 1 s ([.ref h] : List Value).toArray wsZ_entries RZ := ⟨hx, hb, hml, hown, hts⟩
  refine lv_aload_n hx hb dZ_entries_0 rfl (lv_at hl 0 rfl) ?_
  refine lv_iconst (v := 0) hx hb dZ_entries_1 (by decide) ?_
  refine va_put (D := D) (ci := 1) (v := .int 0) (ty := .int) (C := RZ) (T := TZ) (N := 5) hx hb hts hu tyZ tyZ_ok nmZ hown hK hP hD hS 5 rfl rfl 4 (by decide) hF52 (fun _ h9 => h9) rfl (by decide +kernel) rfl rfl (Nat.le_of_ble_eq_true rfl) dZ_entries_2 (fun H locs hP hD hS => ?_)
  have hP : va_P D vwD (wM p0 p1 p2 p3 p4 h r1 f1 s1 cI R F S cn 0) H := hP
  have hD : va_D A (wM p0 p1 p2 p3 p4 h r1 f1 s1 cI R F S cn 0) := hD
  refine lv_aload_n hx hb dZ_entries_5 rfl (lv_at hl 0 rfl) ?_
  refine r_i (rm := ({ frames := 0, cells := 0, slots := 0, locals := 0 } : Room)) (As := []) (rest := []) (j_en l D ad cI cJ p0 p1 p2 p3 p4 h r1 f1 s1 R F S cn 0) SC (cwV 0 hts gZ_entries_Z_entries0 rfl rfl rfl (by decide +kernel) ⟨Nat.le_of_ble_eq_true rfl, Nat.le_of_ble_eq_true rfl⟩) hP hK hD hS hA hX 5 rfl rfl rfl hl.1 rfl (Nat.le_of_ble_eq_true rfl) dZ_entries_6 ⟨Nat.le_of_ble_eq_true rfl, Nat.le_of_ble_eq_true rfl⟩ (fun H locs hP hD hS => ?_)
  have hP : va_P D vwD (wM p0 p1 p2 p3 p4 h r1 f1 s1 cI R F S cn 0) H := hP
  have hD : va_D A (wM p0 p1 p2 p3 p4 h r1 f1 s1 cI R F S cn 0) := hD
  exact e_i hx hb hr hlocks hP hK hD hS dZ_entries_9 (Nat.le_of_ble_eq_true rfl) (Nat.le_of_ble_eq_true rfl)
