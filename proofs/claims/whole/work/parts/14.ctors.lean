/-! The two constructors -/
set_option maxHeartbeats 4000000 in
set_option maxRecDepth 100000 in
theorem k_init (l : Launch) (D : va_G) (ad : Nat → Nat) (cI cJ : ClassId) (h : Nat)  : ∀ sz : Nat, Met l yX0_init wsX0_init ({ frames := 1, cells := 3, slots := 12000, locals := 40 } : Room) (va_Pc [.ref h] (pr D ad [(cI, .int), (cJ, .long)] ([(h, .inr (0, [.null, .null, .null, .int 0]))]) sz)) (qN D [(cI, .int), (cJ, .long)] (fun u : Nat × Nat × Nat => wX h u.1 u.2.1 u.2.2 cI (fun _ => 0) (fun _ => 0) (fun _ => 0) 0 []) (va_A ([(h, .inr (0, [.null, .null, .null, .int 0]))]) sz)) 3 12000 (va_A ([(h, .inr (0, [.null, .null, .null, .int 0]))]) sz) := by
  refine st_N (Qc := qN D [(cI, .int), (cJ, .long)] (fun u : Nat × Nat × Nat => wX h u.1 u.2.1 u.2.2 cI (fun _ => 0) (fun _ => 0) (fun _ => 0) 0 [])) (mc := 3) (ms := 12000) (cc := cX0_init) (maxL := 1) (ret := none) [.ref h] (by decide) rfl (Nat.le_of_ble_eq_true rfl) (fun p en s m below meth c A ls hinit hx hb hr hlocks hml hts hown hA hS hP hK hD hX hl => ?_)
  have hown : s.vm.findClass RX0 = some m.cls := hown
  have hl : lv_has ls 1 [(0, .ref h)] := hl
  have hu : ∀ w ∈ u_ws RX0 TX0 4, w ∈ wsX0_init := by decide +kernel
  have hF9 := hts (.fieldLink RX0 9 "RankRows" "row" "[I") (by decide +kernel)
  have hF13 := hts (.fieldLink RX0 13 "RankRows" "firsts" "[I") (by decide +kernel)
  have hF16 := hts (.fieldLink RX0 16 "RankRows" "seconds" "[I") (by decide +kernel)
  have hF19 := hts (.fieldLink RX0 19 "RankRows" "count" "I") (by decide +kernel)
  have SC : CallFix p m c cX0_init 1 s ([.ref h] : List Value).toArray wsX0_init RX0 := ⟨hx, hb, hml, hown, hts⟩
  have hin : meth.name = "<init>" := hinit
  refine lv_aload_n hx hb dX0_init_0 rfl (lv_at hl 0 rfl) ?_
  refine W.objInit hx hb hown (hts (.methodLink RX0 1 objectInit) (by decide +kernel)) (hts (.instanceMethod objectInit) (by decide +kernel)) (hts (.code objectInit ⟨#[0xb1]⟩ 1 none) (by decide +kernel)) rfl (by rw [hml]; exact hl.1) rfl dX0_init_1 (Nat.le_of_ble_eq_true rfl) (Nat.le_of_ble_eq_true rfl) ?_
  refine W.eq (g2 := F0 m 4 ls []) rfl ?_
  refine lv_aload_n hx hb dX0_init_4 rfl (lv_at hl 0 rfl) ?_
  refine lv_sipush (v := 4000) hx hb dX0_init_5 (by decide) ?_
  refine q_newi hx hb (hts (.arrayClass .int) (by decide +kernel)) hK hP hD hS hA (Nat.le_of_ble_eq_true rfl) (Nat.le_of_ble_eq_true rfl) dX0_init_8 (fun r1 H hP hD hS => ?_)
  have hP : va_P D vwD ([(h, .inr (0, [.null, .null, .null, .int 0])), (r1, .inl (cI, 4000, .inl (fun _ => 0)))]) H := hP
  have hD : va_D A ([(h, .inr (0, [.null, .null, .null, .int 0])), (r1, .inl (cI, 4000, .inl (fun _ => 0)))]) := hD
  refine va_putF (D := D) (ci := 0) (v := .ref r1) (ty := .array .int) (C := RX0) (T := TX0) (N := 4) hx hb hts hu tyX0 tyX0_ok nmX0 hown hK hP hD hS 0 rfl rfl 0 (by decide) hF9 (fun _ h9 => h9) rfl hin rfl (by decide +kernel) rfl rfl (Nat.le_of_ble_eq_true rfl) dX0_init_10 (fun H locs hP hD hS => ?_)
  have hP : va_P D vwD ([(h, .inr (0, [.ref r1, .null, .null, .int 0])), (r1, .inl (cI, 4000, .inl (fun _ => 0)))]) H := hP
  have hD : va_D A ([(h, .inr (0, [.ref r1, .null, .null, .int 0])), (r1, .inl (cI, 4000, .inl (fun _ => 0)))]) := hD
  refine lv_aload_n hx hb dX0_init_13 rfl (lv_at hl 0 rfl) ?_
  refine lv_sipush (v := 4000) hx hb dX0_init_14 (by decide) ?_
  refine q_newi hx hb (hts (.arrayClass .int) (by decide +kernel)) hK hP hD hS hA (Nat.le_of_ble_eq_true rfl) (Nat.le_of_ble_eq_true rfl) dX0_init_17 (fun f1 H hP hD hS => ?_)
  have hP : va_P D vwD ([(h, .inr (0, [.ref r1, .null, .null, .int 0])), (r1, .inl (cI, 4000, .inl (fun _ => 0))), (f1, .inl (cI, 4000, .inl (fun _ => 0)))]) H := hP
  have hD : va_D A ([(h, .inr (0, [.ref r1, .null, .null, .int 0])), (r1, .inl (cI, 4000, .inl (fun _ => 0))), (f1, .inl (cI, 4000, .inl (fun _ => 0)))]) := hD
  refine va_putF (D := D) (ci := 0) (v := .ref f1) (ty := .array .int) (C := RX0) (T := TX0) (N := 4) hx hb hts hu tyX0 tyX0_ok nmX0 hown hK hP hD hS 0 rfl rfl 1 (by decide) hF13 (fun _ h9 => h9) rfl hin rfl (by decide +kernel) rfl rfl (Nat.le_of_ble_eq_true rfl) dX0_init_19 (fun H locs hP hD hS => ?_)
  have hP : va_P D vwD ([(h, .inr (0, [.ref r1, .ref f1, .null, .int 0])), (r1, .inl (cI, 4000, .inl (fun _ => 0))), (f1, .inl (cI, 4000, .inl (fun _ => 0)))]) H := hP
  have hD : va_D A ([(h, .inr (0, [.ref r1, .ref f1, .null, .int 0])), (r1, .inl (cI, 4000, .inl (fun _ => 0))), (f1, .inl (cI, 4000, .inl (fun _ => 0)))]) := hD
  refine lv_aload_n hx hb dX0_init_22 rfl (lv_at hl 0 rfl) ?_
  refine lv_sipush (v := 4000) hx hb dX0_init_23 (by decide) ?_
  refine q_newi hx hb (hts (.arrayClass .int) (by decide +kernel)) hK hP hD hS hA (Nat.le_of_ble_eq_true rfl) (Nat.le_of_ble_eq_true rfl) dX0_init_26 (fun s1 H hP hD hS => ?_)
  have hP : va_P D vwD ([(h, .inr (0, [.ref r1, .ref f1, .null, .int 0])), (r1, .inl (cI, 4000, .inl (fun _ => 0))), (f1, .inl (cI, 4000, .inl (fun _ => 0))), (s1, .inl (cI, 4000, .inl (fun _ => 0)))]) H := hP
  have hD : va_D A ([(h, .inr (0, [.ref r1, .ref f1, .null, .int 0])), (r1, .inl (cI, 4000, .inl (fun _ => 0))), (f1, .inl (cI, 4000, .inl (fun _ => 0))), (s1, .inl (cI, 4000, .inl (fun _ => 0)))]) := hD
  refine va_putF (D := D) (ci := 0) (v := .ref s1) (ty := .array .int) (C := RX0) (T := TX0) (N := 4) hx hb hts hu tyX0 tyX0_ok nmX0 hown hK hP hD hS 0 rfl rfl 2 (by decide) hF16 (fun _ h9 => h9) rfl hin rfl (by decide +kernel) rfl rfl (Nat.le_of_ble_eq_true rfl) dX0_init_28 (fun H locs hP hD hS => ?_)
  have hP : va_P D vwD ([(h, .inr (0, [.ref r1, .ref f1, .ref s1, .int 0])), (r1, .inl (cI, 4000, .inl (fun _ => 0))), (f1, .inl (cI, 4000, .inl (fun _ => 0))), (s1, .inl (cI, 4000, .inl (fun _ => 0)))]) H := hP
  have hD : va_D A ([(h, .inr (0, [.ref r1, .ref f1, .ref s1, .int 0])), (r1, .inl (cI, 4000, .inl (fun _ => 0))), (f1, .inl (cI, 4000, .inl (fun _ => 0))), (s1, .inl (cI, 4000, .inl (fun _ => 0)))]) := hD
  refine lv_aload_n hx hb dX0_init_31 rfl (lv_at hl 0 rfl) ?_
  refine lv_iconst (v := 0) hx hb dX0_init_32 (by decide) ?_
  refine va_put (D := D) (ci := 0) (v := .int 0) (ty := .int) (C := RX0) (T := TX0) (N := 4) hx hb hts hu tyX0 tyX0_ok nmX0 hown hK hP hD hS 0 rfl rfl 3 (by decide) hF19 (fun _ h9 => h9) rfl (by decide +kernel) rfl rfl (Nat.le_of_ble_eq_true rfl) dX0_init_33 (fun H locs hP hD hS => ?_)
  have hP : va_P D vwD ([(h, .inr (0, [.ref r1, .ref f1, .ref s1, .int 0])), (r1, .inl (cI, 4000, .inl (fun _ => 0))), (f1, .inl (cI, 4000, .inl (fun _ => 0))), (s1, .inl (cI, 4000, .inl (fun _ => 0)))]) H := hP
  have hD : va_D A ([(h, .inr (0, [.ref r1, .ref f1, .ref s1, .int 0])), (r1, .inl (cI, 4000, .inl (fun _ => 0))), (f1, .inl (cI, 4000, .inl (fun _ => 0))), (s1, .inl (cI, 4000, .inl (fun _ => 0)))]) := hD
  exact e_n (r1, f1, s1) hx hb hr hlocks hP hK hD hS dX0_init_36 (Nat.le_of_ble_eq_true rfl) (Nat.le_of_ble_eq_true rfl)
set_option maxHeartbeats 4000000 in
set_option maxRecDepth 100000 in
theorem j_init (l : Launch) (D : va_G) (ad : Nat → Nat) (cI cJ : ClassId) (p0 p1 p2 p3 : Nat × va_E) (h : Nat)  : ∀ sz : Nat, Met l yZ_init wsZ_init ({ frames := 1, cells := 3, slots := 12000, locals := 40 } : Room) (va_Pc [.ref h] (pr D ad [(cI, .int), (cJ, .long)] ([p0, p1, p2, p3, (h, .inr (1, [.null, .null, .null, .int 0, .int 0]))]) sz)) (qN D [(cI, .int), (cJ, .long)] (fun u : Nat × Nat × Nat => p0 :: p1 :: p2 :: p3 :: (h, .inr (1, [.ref u.1, .ref u.2.1, .ref u.2.2, .int (nI 0), .int 0])) :: (u.1, .inl (cI, 4000, .inl (fun _ => 0))) :: (u.2.1, .inl (cI, 4000, .inl (fun _ => 0))) :: (u.2.2, .inl (cI, 4000, .inl (fun _ => 0))) :: []) (va_A ([p0, p1, p2, p3, (h, .inr (1, [.null, .null, .null, .int 0, .int 0]))]) sz)) 3 12000 (va_A ([p0, p1, p2, p3, (h, .inr (1, [.null, .null, .null, .int 0, .int 0]))]) sz) := by
  refine st_N (Qc := qN D [(cI, .int), (cJ, .long)] (fun u : Nat × Nat × Nat => p0 :: p1 :: p2 :: p3 :: (h, .inr (1, [.ref u.1, .ref u.2.1, .ref u.2.2, .int (nI 0), .int 0])) :: (u.1, .inl (cI, 4000, .inl (fun _ => 0))) :: (u.2.1, .inl (cI, 4000, .inl (fun _ => 0))) :: (u.2.2, .inl (cI, 4000, .inl (fun _ => 0))) :: [])) (mc := 3) (ms := 12000) (cc := cZ_init) (maxL := 1) (ret := none) [.ref h] (by decide) rfl (Nat.le_of_ble_eq_true rfl) (fun p en s m below meth c A ls hinit hx hb hr hlocks hml hts hown hA hS hP hK hD hX hl => ?_)
  have hown : s.vm.findClass RZ = some m.cls := hown
  have hl : lv_has ls 1 [(0, .ref h)] := hl
  have hu : ∀ w ∈ u_ws RZ TZ 5, w ∈ wsZ_init := fun w h => List.mem_cons_of_mem _ (wsZ0_in w h)
  have hF9 := hts (.fieldLink RZ 9 "RankRowsModel" "row" "[I") (by decide +kernel)
  have hF13 := hts (.fieldLink RZ 13 "RankRowsModel" "first" "[I") (by decide +kernel)
  have hF16 := hts (.fieldLink RZ 16 "RankRowsModel" "second" "[I") (by decide +kernel)
  have SC : CallFix p m c cZ_init 1 s ([.ref h] : List Value).toArray wsZ_init RZ := ⟨hx, hb, hml, hown, hts⟩
  have hin : meth.name = "<init>" := hinit
  refine lv_aload_n hx hb dZ_init_0 rfl (lv_at hl 0 rfl) ?_
  refine W.objInit hx hb hown (hts (.methodLink RZ 1 objectInit) (by decide +kernel)) (hts (.instanceMethod objectInit) (by decide +kernel)) (hts (.code objectInit ⟨#[0xb1]⟩ 1 none) (by decide +kernel)) rfl (by rw [hml]; exact hl.1) rfl dZ_init_1 (Nat.le_of_ble_eq_true rfl) (Nat.le_of_ble_eq_true rfl) ?_
  refine W.eq (g2 := F0 m 4 ls []) rfl ?_
  refine lv_aload_n hx hb dZ_init_4 rfl (lv_at hl 0 rfl) ?_
  refine lv_sipush (v := 4000) hx hb dZ_init_5 (by decide) ?_
  refine q_newi hx hb (hts (.arrayClass .int) (by decide +kernel)) hK hP hD hS hA (Nat.le_of_ble_eq_true rfl) (Nat.le_of_ble_eq_true rfl) dZ_init_8 (fun r1 H hP hD hS => ?_)
  have hP : va_P D vwD ([p0, p1, p2, p3, (h, .inr (1, [.null, .null, .null, .int 0, .int 0])), (r1, .inl (cI, 4000, .inl (fun _ => 0)))]) H := hP
  have hD : va_D A ([p0, p1, p2, p3, (h, .inr (1, [.null, .null, .null, .int 0, .int 0])), (r1, .inl (cI, 4000, .inl (fun _ => 0)))]) := hD
  refine va_putF (D := D) (ci := 1) (v := .ref r1) (ty := .array .int) (C := RZ) (T := TZ) (N := 5) hx hb hts hu tyZ tyZ_ok nmZ hown hK hP hD hS 4 rfl rfl 0 (by decide) hF9 (fun _ h9 => h9) rfl hin rfl (by decide +kernel) rfl rfl (Nat.le_of_ble_eq_true rfl) dZ_init_10 (fun H locs hP hD hS => ?_)
  have hP : va_P D vwD ([p0, p1, p2, p3, (h, .inr (1, [.ref r1, .null, .null, .int 0, .int 0])), (r1, .inl (cI, 4000, .inl (fun _ => 0)))]) H := hP
  have hD : va_D A ([p0, p1, p2, p3, (h, .inr (1, [.ref r1, .null, .null, .int 0, .int 0])), (r1, .inl (cI, 4000, .inl (fun _ => 0)))]) := hD
  refine lv_aload_n hx hb dZ_init_13 rfl (lv_at hl 0 rfl) ?_
  refine lv_sipush (v := 4000) hx hb dZ_init_14 (by decide) ?_
  refine q_newi hx hb (hts (.arrayClass .int) (by decide +kernel)) hK hP hD hS hA (Nat.le_of_ble_eq_true rfl) (Nat.le_of_ble_eq_true rfl) dZ_init_17 (fun f1 H hP hD hS => ?_)
  have hP : va_P D vwD ([p0, p1, p2, p3, (h, .inr (1, [.ref r1, .null, .null, .int 0, .int 0])), (r1, .inl (cI, 4000, .inl (fun _ => 0))), (f1, .inl (cI, 4000, .inl (fun _ => 0)))]) H := hP
  have hD : va_D A ([p0, p1, p2, p3, (h, .inr (1, [.ref r1, .null, .null, .int 0, .int 0])), (r1, .inl (cI, 4000, .inl (fun _ => 0))), (f1, .inl (cI, 4000, .inl (fun _ => 0)))]) := hD
  refine va_putF (D := D) (ci := 1) (v := .ref f1) (ty := .array .int) (C := RZ) (T := TZ) (N := 5) hx hb hts hu tyZ tyZ_ok nmZ hown hK hP hD hS 4 rfl rfl 1 (by decide) hF13 (fun _ h9 => h9) rfl hin rfl (by decide +kernel) rfl rfl (Nat.le_of_ble_eq_true rfl) dZ_init_19 (fun H locs hP hD hS => ?_)
  have hP : va_P D vwD ([p0, p1, p2, p3, (h, .inr (1, [.ref r1, .ref f1, .null, .int 0, .int 0])), (r1, .inl (cI, 4000, .inl (fun _ => 0))), (f1, .inl (cI, 4000, .inl (fun _ => 0)))]) H := hP
  have hD : va_D A ([p0, p1, p2, p3, (h, .inr (1, [.ref r1, .ref f1, .null, .int 0, .int 0])), (r1, .inl (cI, 4000, .inl (fun _ => 0))), (f1, .inl (cI, 4000, .inl (fun _ => 0)))]) := hD
  refine lv_aload_n hx hb dZ_init_22 rfl (lv_at hl 0 rfl) ?_
  refine lv_sipush (v := 4000) hx hb dZ_init_23 (by decide) ?_
  refine q_newi hx hb (hts (.arrayClass .int) (by decide +kernel)) hK hP hD hS hA (Nat.le_of_ble_eq_true rfl) (Nat.le_of_ble_eq_true rfl) dZ_init_26 (fun s1 H hP hD hS => ?_)
  have hP : va_P D vwD ([p0, p1, p2, p3, (h, .inr (1, [.ref r1, .ref f1, .null, .int 0, .int 0])), (r1, .inl (cI, 4000, .inl (fun _ => 0))), (f1, .inl (cI, 4000, .inl (fun _ => 0))), (s1, .inl (cI, 4000, .inl (fun _ => 0)))]) H := hP
  have hD : va_D A ([p0, p1, p2, p3, (h, .inr (1, [.ref r1, .ref f1, .null, .int 0, .int 0])), (r1, .inl (cI, 4000, .inl (fun _ => 0))), (f1, .inl (cI, 4000, .inl (fun _ => 0))), (s1, .inl (cI, 4000, .inl (fun _ => 0)))]) := hD
  refine va_putF (D := D) (ci := 1) (v := .ref s1) (ty := .array .int) (C := RZ) (T := TZ) (N := 5) hx hb hts hu tyZ tyZ_ok nmZ hown hK hP hD hS 4 rfl rfl 2 (by decide) hF16 (fun _ h9 => h9) rfl hin rfl (by decide +kernel) rfl rfl (Nat.le_of_ble_eq_true rfl) dZ_init_28 (fun H locs hP hD hS => ?_)
  have hP : va_P D vwD ([p0, p1, p2, p3, (h, .inr (1, [.ref r1, .ref f1, .ref s1, .int 0, .int 0])), (r1, .inl (cI, 4000, .inl (fun _ => 0))), (f1, .inl (cI, 4000, .inl (fun _ => 0))), (s1, .inl (cI, 4000, .inl (fun _ => 0)))]) H := hP
  have hD : va_D A ([p0, p1, p2, p3, (h, .inr (1, [.ref r1, .ref f1, .ref s1, .int 0, .int 0])), (r1, .inl (cI, 4000, .inl (fun _ => 0))), (f1, .inl (cI, 4000, .inl (fun _ => 0))), (s1, .inl (cI, 4000, .inl (fun _ => 0)))]) := hD
  exact e_n (r1, f1, s1) hx hb hr hlocks hP hK hD hS dZ_init_31 (Nat.le_of_ble_eq_true rfl) (Nat.le_of_ble_eq_true rfl)
