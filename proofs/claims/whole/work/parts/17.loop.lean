/-! The law's loop -/
set_option maxHeartbeats 4000000 in
set_option maxRecDepth 100000 in
theorem lw_loop {p : Program} {l : Launch} {e : Env} {s : State} {m : MethodId} {below : List Frame} {meth : Method} {c : Code} {b L : Nat} {xs : Nat → Int32} {D : va_G} {ad : Nat → Nat} {kI kJ : ClassId} {A : Nat → Prop} {Q : State → Prop} (C0 : lwC p l s m c b L xs D ad kI kJ A) (hL : L ≤ 2560) (h r1 f1 s1 o hm rm fm sm : Nat)
    (hend : ∀ (H : Heap) (locs : List Loc) (cells slots : Nat) (ls : Array Slot), va_S A s.heap H locs → cells ≤ 1047 → slots ≤ 32286 → W p l e room_1 s m #[Value.ref b] below meth c H locs cells slots Q (F0 m 591 ls [])) :
    ∀ (d i : Nat), 512 - i < d → i ≤ 512 → ∀ (R F S : Nat → Int32) (cn : Nat) (g : Nat → Int64) (th : Int32) (H : Heap) (locs : List Loc) (ls : Array Slot) (cells slots : Nat), rk_ok R cn → cells ≤ 9 + 2 * i → slots ≤ 24010 + 12 * i → va_P D vwD (wL h r1 f1 s1 o hm rm fm sm kI kJ R F S cn g th) H → va_D A (wL h r1 f1 s1 o hm rm fm sm kI kJ R F S cn g th) → va_S A s.heap H locs → lv_has ls 7 [(4, .int (nI (5 * i))), (3, .ref o), (2, .ref hm), (1, .ref h), (0, .ref b)] → W p l e room_1 s m #[Value.ref b] below meth c H locs cells slots Q (F0 m 23 ls []) := by
  obtain ⟨hx, hb, hml, hown, hts, hXs, hbl, hbA, hA, hK, hX, hl9⟩ := id C0
  intro d
  induction d with
  | zero => intro i hd; exact absurd hd (Nat.not_lt_zero _)
  | succ d ih =>
    intro i hd hi R F S cn g th H locs ls cells slots hR hcc hss hP hD hS hl
    refine lv_iload hx hb dL_law_23 (lv_at hl 0 rfl) ?_
    refine lv_aload_n hx hb dL_law_25 rfl (lv_at hl 4 rfl) ?_
    refine va_slen hx hb hXs hbl hbA hS dL_law_26 ?_
    refine q_top (nI L) rfl ?_
    refine lv_iconst (v := 5) hx hb dL_law_27 (by decide) ?_
    refine lv_isub hx hb dL_law_28 ?_
    refine lv_icmp_gt (tgt := 591) hx hb dL_law_29 (by decide) (fun h1 => ?_) (fun h1 => ?_)
    · exact hend H locs cells slots ls hS (by omega) (by omega)
    · have hi5 : 5 * i + 5 ≤ L := rk_five hL (by omega) h1
      have kk : ∀ (R F S : Nat → Int32) (cn : Nat) (g : Nat → Int64) (th : Int32) (H : Heap) (locs : List Loc) (ls : Array Slot), rk_ok R cn → va_P D vwD (wL h r1 f1 s1 o hm rm fm sm kI kJ R F S cn g th) H → va_D A (wL h r1 f1 s1 o hm rm fm sm kI kJ R F S cn g th) → va_S A s.heap H locs → lv_has ls 7 [(4, .int (nI (5 * i))), (3, .ref o), (2, .ref hm), (1, .ref h), (0, .ref b)] → W p l e room_1 s m #[Value.ref b] below meth c H locs (cells + 2) (slots + 12) Q (F0 m 585 ls []) := by
        intro R F S cn g th H locs ls hR hP hD hS hl
        refine lv_iinc (k := 0) (v := nI ((5 * i) + 5)) (lv' := [(4, .int (nI ((5 * i) + 5))), (3, .ref o), (2, .ref hm), (1, .ref h), (0, .ref b)]) hx hb dL_law_585 hl rfl (by rw [(by decide : Int32.ofInt 5 = nI 5)]; exact nI_add _ _) (by decide) rfl (fun ls hl => ?_)
        refine lv_goto (tgt := 23) hx hb dL_law_588 (by decide) ?_
        have hl : lv_has ls 7 [(4, .int (nI (5 * (i + 1)))), (3, .ref o), (2, .ref hm), (1, .ref h), (0, .ref b)] := hl
        exact ih (i + 1) (by omega) (by omega) R F S cn g th H locs ls (cells + 2) (slots + 12) hR (by omega) (by omega) hP hD hS hl
      refine lv_aload_n hx hb dL_law_32 rfl (lv_at hl 4 rfl) ?_
      refine lv_iload hx hb dL_law_33 (lv_at hl 0 rfl) ?_
      refine va_sld hx hb hXs hbl hbA hS (vp_in_nI (n := (5 * i)) (by omega) (by omega)) dL_law_35 ?_
      refine lv_bipush (v := 7) hx hb dL_law_36 (by decide) ?_
      refine lv_iand hx hb dL_law_38 ?_
      obtain ⟨j, hj, hje⟩ := pk_andE (xs (nI (5 * i)).toNatClampNeg) (m := 7) 3 (by decide)
      refine q_top (nI j) hje ?_
      have hj8 : j = 0 ∨ j = 1 ∨ j = 2 ∨ j = 3 ∨ j = 4 ∨ j = 5 ∨ j = 6 ∨ j = 7 := by omega
      rcases hj8 with rfl | rfl | rfl | rfl | rfl | rfl | rfl | rfl
      · refine lv_tableIn (off := 45) (tgt := 84) hx hb dL_law_39 (by decide +kernel) (by decide +kernel) (by decide +kernel) (by decide +kernel) ?_
        exact lc_behind C0 h r1 f1 s1 o hm rm fm sm R F S cn g th hR i hi5 hL (by omega) (by omega) hP hD hS hl kk
      · refine lv_tableIn (off := 137) (tgt := 176) hx hb dL_law_39 (by decide +kernel) (by decide +kernel) (by decide +kernel) (by decide +kernel) ?_
        exact lc_before C0 h r1 f1 s1 o hm rm fm sm R F S cn g th hR i hi5 hL (by omega) (by omega) hP hD hS hl kk
      · refine lv_tableIn (off := 217) (tgt := 256) hx hb dL_law_39 (by decide +kernel) (by decide +kernel) (by decide +kernel) (by decide +kernel) ?_
        exact lc_weigh C0 h r1 f1 s1 o hm rm fm sm R F S cn g th hR i hi5 hL (by omega) (by omega) hP hD hS hl kk
      · refine lv_tableIn (off := 297) (tgt := 336) hx hb dL_law_39 (by decide +kernel) (by decide +kernel) (by decide +kernel) (by decide +kernel) ?_
        exact lc_find C0 h r1 f1 s1 o hm rm fm sm R F S cn g th hR i hi5 hL (by omega) (by omega) hP hD hS hl kk
      · refine lv_tableIn (off := 353) (tgt := 392) hx hb dL_law_39 (by decide +kernel) (by decide +kernel) (by decide +kernel) (by decide +kernel) ?_
        exact lc_sum C0 h r1 f1 s1 o hm rm fm sm R F S cn g th hR i hi5 hL (by omega) (by omega) hP hD hS hl kk
      · refine lv_tableIn (off := 421) (tgt := 460) hx hb dL_law_39 (by decide +kernel) (by decide +kernel) (by decide +kernel) (by decide +kernel) ?_
        exact lc_next C0 h r1 f1 s1 o hm rm fm sm R F S cn g th hR i hi5 hL (by omega) (by omega) hP hD hS hl kk
      · refine lv_tableIn (off := 477) (tgt := 516) hx hb dL_law_39 (by decide +kernel) (by decide +kernel) (by decide +kernel) (by decide +kernel) ?_
        exact lc_place C0 h r1 f1 s1 o hm rm fm sm R F S cn g th hR i hi5 hL (by omega) (by omega) hP hD hS hl kk
      · refine lv_tableIn (off := 533) (tgt := 572) hx hb dL_law_39 (by decide +kernel) (by decide +kernel) (by decide +kernel) (by decide +kernel) ?_
        exact lc_entries C0 h r1 f1 s1 o hm rm fm sm R F S cn g th hR i hi5 hL (by omega) (by omega) hP hD hS hl kk
