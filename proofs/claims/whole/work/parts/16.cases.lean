/-! The law's eight cases -/
/-- both objects in the same state, the place of the answer, in the law's order -/
abbrev wL (h r1 f1 s1 o hm rm fm sm : Nat) (kI kJ : ClassId) (R F S : Nat → Int32) (cn : Nat) (g : Nat → Int64) (th : Int32) : va_W := [(h, .inr (0, [.ref r1, .ref f1, .ref s1, .int (nI cn)])), (r1, .inl (kI, 4000, .inl R)), (f1, .inl (kI, 4000, .inl F)), (s1, .inl (kI, 4000, .inl S)), (o, .inl (kJ, 1, .inr (.inl g))), (hm, .inr (1, [.ref rm, .ref fm, .ref sm, .int (nI cn), .int th])), (rm, .inl (kI, 4000, .inl R)), (fm, .inl (kI, 4000, .inl F)), (sm, .inl (kI, 4000, .inl S))]
/-- what holds all along the law -/
def lwC (p : Program) (l : Launch) (s : State) (m : MethodId) (c : Code) (b L : Nat) (xs : Nat → Int32) (D : va_G) (ad : Nat → Nat) (kI kJ : ClassId) (A : Nat → Prop) : Prop := p.tables.exec = Jvm.exec ∧ c.code = cL_law ∧ c.maxLocals = 7 ∧ s.vm.findClass RL = some m.cls ∧ (∀ w ∈ wsL2, w.before #[Value.ref b] s = true) ∧ va_X b L xs s s.heap ∧ b < s.heap.size ∧ ¬ A b ∧ (∀ q, s.heap.size ≤ q → A q) ∧ va_K D vwD [(kI, .int), (kJ, .long)] s ∧ xg ad A s s.heap ∧ l.stackTraces = false
set_option maxHeartbeats 4000000 in
set_option maxRecDepth 100000 in
theorem lc_behind {p : Program} {l : Launch} {e : Env} {s : State} {m : MethodId} {below : List Frame} {meth : Method} {c : Code} {b L : Nat} {xs : Nat → Int32} {D : va_G} {ad : Nat → Nat} {kI kJ : ClassId} {A : Nat → Prop} {Q : State → Prop} (C0 : lwC p l s m c b L xs D ad kI kJ A) (h r1 f1 s1 o hm rm fm sm : Nat) (R F S : Nat → Int32) (cn : Nat) (g : Nat → Int64) (th : Int32) (hR : rk_ok R cn) (i : Nat) (hi : 5 * i + 5 ≤ L) (hL : L ≤ 2560) {H : Heap} {locs : List Loc} {cells slots : Nat} (hcc : cells + 2 ≤ 1047) (hss : slots + 12 ≤ 32286) (hP : va_P D vwD (wL h r1 f1 s1 o hm rm fm sm kI kJ R F S cn g th) H) (hD : va_D A (wL h r1 f1 s1 o hm rm fm sm kI kJ R F S cn g th)) (hS : va_S A s.heap H locs) {ls : Array Slot} (hl : lv_has ls 7 [(4, .int (nI (5 * i))), (3, .ref o), (2, .ref hm), (1, .ref h), (0, .ref b)])
    (kk : ∀ (R F S : Nat → Int32) (cn : Nat) (g : Nat → Int64) (th : Int32) (H : Heap) (locs : List Loc) (ls : Array Slot), rk_ok R cn → va_P D vwD (wL h r1 f1 s1 o hm rm fm sm kI kJ R F S cn g th) H → va_D A (wL h r1 f1 s1 o hm rm fm sm kI kJ R F S cn g th) → va_S A s.heap H locs → lv_has ls 7 [(4, .int (nI (5 * i))), (3, .ref o), (2, .ref hm), (1, .ref h), (0, .ref b)] → W p l e room_1 s m #[Value.ref b] below meth c H locs (cells + 2) (slots + 12) Q (F0 m 585 ls [])) : W p l e room_1 s m #[Value.ref b] below meth c H locs cells slots Q (F0 m 84 ls []) := by
  obtain ⟨hx, hb, hml, hown, hts, hXs, hbl, hbA, hA, hK, hX, hl9⟩ := id C0
  have SC : CallFix p m c cL_law 7 s #[Value.ref b] wsL2 RL := ⟨hx, hb, hml, hown, hts⟩
  obtain ⟨e1, he1⟩ : ∃ x, xs (nI (5 * i + 1)).toNatClampNeg = x := ⟨_, rfl⟩
  obtain ⟨e2, he2⟩ : ∃ x, xs (nI (5 * i + 2)).toNatClampNeg = x := ⟨_, rfl⟩
  obtain ⟨e3, he3⟩ : ∃ x, xs (nI (5 * i + 3)).toNatClampNeg = x := ⟨_, rfl⟩
  obtain ⟨e4, he4⟩ : ∃ x, xs (nI (5 * i + 4)).toNatClampNeg = x := ⟨_, rfl⟩
  refine lv_aload_n hx hb dL_law_84 rfl (lv_at hl 3 rfl) ?_
  refine lv_aload_n hx hb dL_law_85 rfl (lv_at hl 4 rfl) ?_
  refine lv_iload hx hb dL_law_86 (lv_at hl 0 rfl) ?_
  refine lv_iconst (v := 1) hx hb dL_law_88 (by decide) ?_
  refine lv_iadd hx hb dL_law_89 ?_
  refine q_top (nI ((5 * i) + 1)) (nI_1 _) ?_
  refine va_sld hx hb hXs hbl hbA hS (vp_in_nI (n := ((5 * i) + 1)) (by omega) (by omega)) dL_law_90 ?_
  refine q_top e1 he1 ?_
  refine lv_aload_n hx hb dL_law_91 rfl (lv_at hl 4 rfl) ?_
  refine lv_iload hx hb dL_law_92 (lv_at hl 0 rfl) ?_
  refine lv_iconst (v := 2) hx hb dL_law_94 (by decide) ?_
  refine lv_iadd hx hb dL_law_95 ?_
  refine q_top (nI ((5 * i) + 2)) (nI_add _ 2) ?_
  refine va_sld hx hb hXs hbl hbA hS (vp_in_nI (n := ((5 * i) + 2)) (by omega) (by omega)) dL_law_96 ?_
  refine q_top e2 he2 ?_
  refine lv_aload_n hx hb dL_law_97 rfl (lv_at hl 4 rfl) ?_
  refine lv_iload hx hb dL_law_98 (lv_at hl 0 rfl) ?_
  refine lv_iconst (v := 3) hx hb dL_law_100 (by decide) ?_
  refine lv_iadd hx hb dL_law_101 ?_
  refine q_top (nI ((5 * i) + 3)) (nI_add _ 3) ?_
  refine va_sld hx hb hXs hbl hbA hS (vp_in_nI (n := ((5 * i) + 3)) (by omega) (by omega)) dL_law_102 ?_
  refine q_top e3 he3 ?_
  refine lv_aload_n hx hb dL_law_103 rfl (lv_at hl 4 rfl) ?_
  refine lv_iload hx hb dL_law_104 (lv_at hl 0 rfl) ?_
  refine lv_iconst (v := 4) hx hb dL_law_106 (by decide) ?_
  refine lv_iadd hx hb dL_law_107 ?_
  refine q_top (nI ((5 * i) + 4)) (nI_add _ 4) ?_
  refine va_sld hx hb hXs hbl hbA hS (vp_in_nI (n := ((5 * i) + 4)) (by omega) (by omega)) dL_law_108 ?_
  refine q_top e4 he4 ?_
  refine lv_aload_n hx hb dL_law_109 rfl (lv_at hl 1 rfl) ?_
  by_cases hk : rk_kB e1 e2 e3 e4 cn = 0
  · refine r_swi (rm := ({ frames := 9, cells := 1, slots := 6, locals := 200 } : Room)) (As := [.ref h, .int e1, .int e2, .int e3, .int e4, .ref o]) (rest := []) (w_behind_ok l D ad kI kJ [(hm, .inr (1, [.ref rm, .ref fm, .ref sm, .int (nI cn), .int th])), (rm, .inl (kI, 4000, .inl R)), (fm, .inl (kI, 4000, .inl F)), (sm, .inl (kI, 4000, .inl S))] h r1 f1 s1 o R F S cn g e1 e2 e3 e4 hl9 hR hk) SC (vx_cwSW 6 hts (zg_law gL_law_L_behind) rfl rfl rfl (by decide +kernel) ⟨Nat.le_of_ble_eq_true rfl, Nat.le_of_ble_eq_true rfl⟩) hP hK hD hS hA hX rfl hl.1 rfl (Nat.le_of_ble_eq_true rfl) dL_law_110 ⟨by show cells + 1 ≤ 1047; omega, by show slots + 6 ≤ 32286; omega⟩ (fun H locs hP hD hS => ?_)
    have hP : va_P D vwD ([(h, .inr (0, [.ref r1, .ref f1, .ref s1, .int (nI (cn + e2.toNatClampNeg))])), (r1, .inl (kI, 4000, .inl (rk_in R cn (rk_pb R e1 cn) e2.toNatClampNeg))), (f1, .inl (kI, 4000, .inl (rk_fl F cn e2.toNatClampNeg e3))), (s1, .inl (kI, 4000, .inl (rk_fl S cn e2.toNatClampNeg e4))), (o, .inl (kJ, 1, .inr (.inl (vp_updL g 0 ((nI (cn + e2.toNatClampNeg) - 1).toInt64))))), (hm, .inr (1, [.ref rm, .ref fm, .ref sm, .int (nI cn), .int th])), (rm, .inl (kI, 4000, .inl R)), (fm, .inl (kI, 4000, .inl F)), (sm, .inl (kI, 4000, .inl S))]) H := hP
    have hD : va_D A ([(h, .inr (0, [.ref r1, .ref f1, .ref s1, .int (nI (cn + e2.toNatClampNeg))])), (r1, .inl (kI, 4000, .inl (rk_in R cn (rk_pb R e1 cn) e2.toNatClampNeg))), (f1, .inl (kI, 4000, .inl (rk_fl F cn e2.toNatClampNeg e3))), (s1, .inl (kI, 4000, .inl (rk_fl S cn e2.toNatClampNeg e4))), (o, .inl (kJ, 1, .inr (.inl (vp_updL g 0 ((nI (cn + e2.toNatClampNeg) - 1).toInt64))))), (hm, .inr (1, [.ref rm, .ref fm, .ref sm, .int (nI cn), .int th])), (rm, .inl (kI, 4000, .inl R)), (fm, .inl (kI, 4000, .inl F)), (sm, .inl (kI, 4000, .inl S))]) := hD
    refine lv_istore (lv' := [(5, .int 0), (4, .int (nI (5 * i))), (3, .ref o), (2, .ref hm), (1, .ref h), (0, .ref b)]) hx hb dL_law_113 hl (by decide) rfl (fun ls hl => ?_)
    refine lv_aload_n hx hb dL_law_115 rfl (lv_at hl 3 rfl) ?_
    refine lv_aload_n hx hb dL_law_116 rfl (lv_at hl 5 rfl) ?_
    refine lv_iload hx hb dL_law_117 (lv_at hl 1 rfl) ?_
    refine lv_iconst (v := 1) hx hb dL_law_119 (by decide) ?_
    refine lv_iadd hx hb dL_law_120 ?_
    refine q_top (nI ((5 * i) + 1)) (nI_1 _) ?_
    refine va_sld hx hb hXs hbl hbA hS (vp_in_nI (n := ((5 * i) + 1)) (by omega) (by omega)) dL_law_121 ?_
    refine q_top e1 he1 ?_
    refine lv_aload_n hx hb dL_law_122 rfl (lv_at hl 5 rfl) ?_
    refine lv_iload hx hb dL_law_123 (lv_at hl 1 rfl) ?_
    refine lv_iconst (v := 2) hx hb dL_law_125 (by decide) ?_
    refine lv_iadd hx hb dL_law_126 ?_
    refine q_top (nI ((5 * i) + 2)) (nI_add _ 2) ?_
    refine va_sld hx hb hXs hbl hbA hS (vp_in_nI (n := ((5 * i) + 2)) (by omega) (by omega)) dL_law_127 ?_
    refine q_top e2 he2 ?_
    refine lv_aload_n hx hb dL_law_128 rfl (lv_at hl 5 rfl) ?_
    refine lv_iload hx hb dL_law_129 (lv_at hl 1 rfl) ?_
    refine lv_iconst (v := 3) hx hb dL_law_131 (by decide) ?_
    refine lv_iadd hx hb dL_law_132 ?_
    refine q_top (nI ((5 * i) + 3)) (nI_add _ 3) ?_
    refine va_sld hx hb hXs hbl hbA hS (vp_in_nI (n := ((5 * i) + 3)) (by omega) (by omega)) dL_law_133 ?_
    refine q_top e3 he3 ?_
    refine lv_aload_n hx hb dL_law_134 rfl (lv_at hl 5 rfl) ?_
    refine lv_iload hx hb dL_law_135 (lv_at hl 1 rfl) ?_
    refine lv_iconst (v := 4) hx hb dL_law_137 (by decide) ?_
    refine lv_iadd hx hb dL_law_138 ?_
    refine q_top (nI ((5 * i) + 4)) (nI_add _ 4) ?_
    refine va_sld hx hb hXs hbl hbA hS (vp_in_nI (n := ((5 * i) + 4)) (by omega) (by omega)) dL_law_139 ?_
    refine q_top e4 he4 ?_
    refine r_vwi (rm := ({ frames := 8, cells := 1, slots := 6, locals := 180 } : Room)) (As := [.int e1, .int e2, .int e3, .int e4]) (rest := []) (p_behind_ok l D ad kI kJ (h, .inr (0, [.ref r1, .ref f1, .ref s1, .int (nI (cn + e2.toNatClampNeg))])) (r1, .inl (kI, 4000, .inl (rk_in R cn (rk_pb R e1 cn) e2.toNatClampNeg))) (f1, .inl (kI, 4000, .inl (rk_fl F cn e2.toNatClampNeg e3))) (s1, .inl (kI, 4000, .inl (rk_fl S cn e2.toNatClampNeg e4))) (o, .inl (kJ, 1, .inr (.inl (vp_updL g 0 ((nI (cn + e2.toNatClampNeg) - 1).toInt64))))) hm rm fm sm R F S cn th e1 e2 e3 e4 hl9 hR hk) SC (vx_cwVW 4 hts gL2_Z_behind rfl rfl rfl (by decide +kernel) ⟨Nat.le_of_ble_eq_true rfl, Nat.le_of_ble_eq_true rfl⟩) hP hK hD hS hA hX 5 rfl rfl rfl hl.1 rfl (Nat.le_of_ble_eq_true rfl) dL_law_140 ⟨by show (cells + 1) + 1 ≤ 1047; omega, by show (slots + 6) + 6 ≤ 32286; omega⟩ (fun H locs hP hD hS => ?_)
    have hP : va_P D vwD ([(h, .inr (0, [.ref r1, .ref f1, .ref s1, .int (nI (cn + e2.toNatClampNeg))])), (r1, .inl (kI, 4000, .inl (rk_in R cn (rk_pb R e1 cn) e2.toNatClampNeg))), (f1, .inl (kI, 4000, .inl (rk_fl F cn e2.toNatClampNeg e3))), (s1, .inl (kI, 4000, .inl (rk_fl S cn e2.toNatClampNeg e4))), (o, .inl (kJ, 1, .inr (.inl (vp_updL g 0 ((nI (cn + e2.toNatClampNeg) - 1).toInt64))))), (hm, .inr (1, [.ref rm, .ref fm, .ref sm, .int (nI (cn + e2.toNatClampNeg)), .int 0])), (rm, .inl (kI, 4000, .inl (rk_in R cn (rk_pb R e1 cn) e2.toNatClampNeg))), (fm, .inl (kI, 4000, .inl (rk_fl F cn e2.toNatClampNeg e3))), (sm, .inl (kI, 4000, .inl (rk_fl S cn e2.toNatClampNeg e4)))]) H := hP
    have hD : va_D A ([(h, .inr (0, [.ref r1, .ref f1, .ref s1, .int (nI (cn + e2.toNatClampNeg))])), (r1, .inl (kI, 4000, .inl (rk_in R cn (rk_pb R e1 cn) e2.toNatClampNeg))), (f1, .inl (kI, 4000, .inl (rk_fl F cn e2.toNatClampNeg e3))), (s1, .inl (kI, 4000, .inl (rk_fl S cn e2.toNatClampNeg e4))), (o, .inl (kJ, 1, .inr (.inl (vp_updL g 0 ((nI (cn + e2.toNatClampNeg) - 1).toInt64))))), (hm, .inr (1, [.ref rm, .ref fm, .ref sm, .int (nI (cn + e2.toNatClampNeg)), .int 0])), (rm, .inl (kI, 4000, .inl (rk_in R cn (rk_pb R e1 cn) e2.toNatClampNeg))), (fm, .inl (kI, 4000, .inl (rk_fl F cn e2.toNatClampNeg e3))), (sm, .inl (kI, 4000, .inl (rk_fl S cn e2.toNatClampNeg e4)))]) := hD
    refine lv_istore (lv' := [(6, .int (nI (cn + e2.toNatClampNeg) - 1)), (5, .int 0), (4, .int (nI (5 * i))), (3, .ref o), (2, .ref hm), (1, .ref h), (0, .ref b)]) hx hb dL_law_143 hl (by decide) rfl (fun ls hl => ?_)
    refine lv_aload_n hx hb dL_law_145 rfl (lv_at hl 4 rfl) ?_
    refine r_i (rm := ({ frames := 0, cells := 0, slots := 0, locals := 0 } : Room)) (As := []) (rest := []) (j_tn l D ad kI kJ (h, .inr (0, [.ref r1, .ref f1, .ref s1, .int (nI (cn + e2.toNatClampNeg))])) (r1, .inl (kI, 4000, .inl (rk_in R cn (rk_pb R e1 cn) e2.toNatClampNeg))) (f1, .inl (kI, 4000, .inl (rk_fl F cn e2.toNatClampNeg e3))) (s1, .inl (kI, 4000, .inl (rk_fl S cn e2.toNatClampNeg e4))) (o, .inl (kJ, 1, .inr (.inl (vp_updL g 0 ((nI (cn + e2.toNatClampNeg) - 1).toInt64))))) hm rm fm sm (rk_in R cn (rk_pb R e1 cn) e2.toNatClampNeg) (rk_fl F cn e2.toNatClampNeg e3) (rk_fl S cn e2.toNatClampNeg e4) (cn + e2.toNatClampNeg) 0) SC (cwV 0 hts gL2_Z_thrown rfl rfl rfl (by decide +kernel) ⟨Nat.le_of_ble_eq_true rfl, Nat.le_of_ble_eq_true rfl⟩) hP hK hD hS hA hX 5 rfl rfl rfl hl.1 rfl (Nat.le_of_ble_eq_true rfl) dL_law_146 ⟨by show ((cells + 1) + 1) + 0 ≤ 1047; omega, by show ((slots + 6) + 6) + 0 ≤ 32286; omega⟩ (fun H locs hP hD hS => ?_)
    have hP : va_P D vwD ([(h, .inr (0, [.ref r1, .ref f1, .ref s1, .int (nI (cn + e2.toNatClampNeg))])), (r1, .inl (kI, 4000, .inl (rk_in R cn (rk_pb R e1 cn) e2.toNatClampNeg))), (f1, .inl (kI, 4000, .inl (rk_fl F cn e2.toNatClampNeg e3))), (s1, .inl (kI, 4000, .inl (rk_fl S cn e2.toNatClampNeg e4))), (o, .inl (kJ, 1, .inr (.inl (vp_updL g 0 ((nI (cn + e2.toNatClampNeg) - 1).toInt64))))), (hm, .inr (1, [.ref rm, .ref fm, .ref sm, .int (nI (cn + e2.toNatClampNeg)), .int 0])), (rm, .inl (kI, 4000, .inl (rk_in R cn (rk_pb R e1 cn) e2.toNatClampNeg))), (fm, .inl (kI, 4000, .inl (rk_fl F cn e2.toNatClampNeg e3))), (sm, .inl (kI, 4000, .inl (rk_fl S cn e2.toNatClampNeg e4)))]) H := hP
    have hD : va_D A ([(h, .inr (0, [.ref r1, .ref f1, .ref s1, .int (nI (cn + e2.toNatClampNeg))])), (r1, .inl (kI, 4000, .inl (rk_in R cn (rk_pb R e1 cn) e2.toNatClampNeg))), (f1, .inl (kI, 4000, .inl (rk_fl F cn e2.toNatClampNeg e3))), (s1, .inl (kI, 4000, .inl (rk_fl S cn e2.toNatClampNeg e4))), (o, .inl (kJ, 1, .inr (.inl (vp_updL g 0 ((nI (cn + e2.toNatClampNeg) - 1).toInt64))))), (hm, .inr (1, [.ref rm, .ref fm, .ref sm, .int (nI (cn + e2.toNatClampNeg)), .int 0])), (rm, .inl (kI, 4000, .inl (rk_in R cn (rk_pb R e1 cn) e2.toNatClampNeg))), (fm, .inl (kI, 4000, .inl (rk_fl F cn e2.toNatClampNeg e3))), (sm, .inl (kI, 4000, .inl (rk_fl S cn e2.toNatClampNeg e4)))]) := hD
    refine lv_iload hx hb dL_law_149 (lv_at hl 1 rfl) ?_
    refine lv_icmp_eq (tgt := 156) hx hb dL_law_151 (by decide) (fun _ => ?_) (fun h9 => absurd (rfl) h9)
    refine lv_iload hx hb dL_law_156 (lv_at hl 1 rfl) ?_
    refine lv_if_ne (tgt := 173) hx hb dL_law_158 (by decide) (fun h9 => absurd h9 (fun q => q rfl)) (fun _ => ?_)
    refine lv_aload_n hx hb dL_law_161 rfl (lv_at hl 3 rfl) ?_
    refine lv_iconst (v := 0) hx hb dL_law_162 (by decide) ?_
    refine va_lald hx hb hK hP 4 1 rfl rfl (vp_in_nI (n := 0) (N := 1) (by decide) (by decide)) dL_law_163 ?_
    refine q_topl ((nI (cn + e2.toNatClampNeg) - 1).toInt64) (by rw [sb_cl0, pk_uLs]) ?_
    refine lv_iload hx hb dL_law_164 (lv_at hl 0 rfl) ?_
    refine lv_i2l hx hb dL_law_166 rfl ?_
    refine W.lcmp hx hb dL_law_167 ?_
    refine q_top 0 ((lg_cmp_eq _ _).mpr rfl) ?_
    refine lv_if_eq (tgt := 173) hx hb dL_law_168 (by decide) (fun _ => ?_) (fun h9 => absurd (rfl) h9)
    refine lv_goto (tgt := 585) hx hb dL_law_173 (by decide) ?_
    refine W.widen (k := cells + 2) (n := slots + 12) (by omega) (by omega) ?_
    exact kk (rk_in R cn (rk_pb R e1 cn) e2.toNatClampNeg) (rk_fl F cn e2.toNatClampNeg e3) (rk_fl S cn e2.toNatClampNeg e4) (cn + e2.toNatClampNeg) (vp_updL g 0 ((nI (cn + e2.toNatClampNeg) - 1).toInt64)) 0 H locs ls (rk_ok_in hR (rk_pb_le hR (rk_kB_i hk).1) (rk_kB_i hk).2) hP hD hS (lv_sub hl [2, 3, 4, 5, 6] rfl)
  · refine r_swi (rm := ({ frames := 9, cells := 1, slots := 6, locals := 200 } : Room)) (As := [.ref h, .int e1, .int e2, .int e3, .int e4, .ref o]) (rest := []) (w_behind_bad l D ad kI kJ [(hm, .inr (1, [.ref rm, .ref fm, .ref sm, .int (nI cn), .int th])), (rm, .inl (kI, 4000, .inl R)), (fm, .inl (kI, 4000, .inl F)), (sm, .inl (kI, 4000, .inl S))] h r1 f1 s1 o R F S cn g e1 e2 e3 e4 hl9 hR hk) SC (vx_cwSW 6 hts (zg_law gL_law_L_behind) rfl rfl rfl (by decide +kernel) ⟨Nat.le_of_ble_eq_true rfl, Nat.le_of_ble_eq_true rfl⟩) hP hK hD hS hA hX rfl hl.1 rfl (Nat.le_of_ble_eq_true rfl) dL_law_110 ⟨by show cells + 1 ≤ 1047; omega, by show slots + 6 ≤ 32286; omega⟩ (fun H locs hP hD hS => ?_)
    have hP : va_P D vwD ([(h, .inr (0, [.ref r1, .ref f1, .ref s1, .int (nI cn)])), (r1, .inl (kI, 4000, .inl R)), (f1, .inl (kI, 4000, .inl F)), (s1, .inl (kI, 4000, .inl S)), (o, .inl (kJ, 1, .inr (.inl g))), (hm, .inr (1, [.ref rm, .ref fm, .ref sm, .int (nI cn), .int th])), (rm, .inl (kI, 4000, .inl R)), (fm, .inl (kI, 4000, .inl F)), (sm, .inl (kI, 4000, .inl S))]) H := hP
    have hD : va_D A ([(h, .inr (0, [.ref r1, .ref f1, .ref s1, .int (nI cn)])), (r1, .inl (kI, 4000, .inl R)), (f1, .inl (kI, 4000, .inl F)), (s1, .inl (kI, 4000, .inl S)), (o, .inl (kJ, 1, .inr (.inl g))), (hm, .inr (1, [.ref rm, .ref fm, .ref sm, .int (nI cn), .int th])), (rm, .inl (kI, 4000, .inl R)), (fm, .inl (kI, 4000, .inl F)), (sm, .inl (kI, 4000, .inl S))]) := hD
    refine lv_istore (lv' := [(5, .int (nI (rk_kB e1 e2 e3 e4 cn))), (4, .int (nI (5 * i))), (3, .ref o), (2, .ref hm), (1, .ref h), (0, .ref b)]) hx hb dL_law_113 hl (by decide) rfl (fun ls hl => ?_)
    refine lv_aload_n hx hb dL_law_115 rfl (lv_at hl 3 rfl) ?_
    refine lv_aload_n hx hb dL_law_116 rfl (lv_at hl 5 rfl) ?_
    refine lv_iload hx hb dL_law_117 (lv_at hl 1 rfl) ?_
    refine lv_iconst (v := 1) hx hb dL_law_119 (by decide) ?_
    refine lv_iadd hx hb dL_law_120 ?_
    refine q_top (nI ((5 * i) + 1)) (nI_1 _) ?_
    refine va_sld hx hb hXs hbl hbA hS (vp_in_nI (n := ((5 * i) + 1)) (by omega) (by omega)) dL_law_121 ?_
    refine q_top e1 he1 ?_
    refine lv_aload_n hx hb dL_law_122 rfl (lv_at hl 5 rfl) ?_
    refine lv_iload hx hb dL_law_123 (lv_at hl 1 rfl) ?_
    refine lv_iconst (v := 2) hx hb dL_law_125 (by decide) ?_
    refine lv_iadd hx hb dL_law_126 ?_
    refine q_top (nI ((5 * i) + 2)) (nI_add _ 2) ?_
    refine va_sld hx hb hXs hbl hbA hS (vp_in_nI (n := ((5 * i) + 2)) (by omega) (by omega)) dL_law_127 ?_
    refine q_top e2 he2 ?_
    refine lv_aload_n hx hb dL_law_128 rfl (lv_at hl 5 rfl) ?_
    refine lv_iload hx hb dL_law_129 (lv_at hl 1 rfl) ?_
    refine lv_iconst (v := 3) hx hb dL_law_131 (by decide) ?_
    refine lv_iadd hx hb dL_law_132 ?_
    refine q_top (nI ((5 * i) + 3)) (nI_add _ 3) ?_
    refine va_sld hx hb hXs hbl hbA hS (vp_in_nI (n := ((5 * i) + 3)) (by omega) (by omega)) dL_law_133 ?_
    refine q_top e3 he3 ?_
    refine lv_aload_n hx hb dL_law_134 rfl (lv_at hl 5 rfl) ?_
    refine lv_iload hx hb dL_law_135 (lv_at hl 1 rfl) ?_
    refine lv_iconst (v := 4) hx hb dL_law_137 (by decide) ?_
    refine lv_iadd hx hb dL_law_138 ?_
    refine q_top (nI ((5 * i) + 4)) (nI_add _ 4) ?_
    refine va_sld hx hb hXs hbl hbA hS (vp_in_nI (n := ((5 * i) + 4)) (by omega) (by omega)) dL_law_139 ?_
    refine q_top e4 he4 ?_
    refine r_vwi (rm := ({ frames := 8, cells := 1, slots := 6, locals := 180 } : Room)) (As := [.int e1, .int e2, .int e3, .int e4]) (rest := []) (p_behind_bad l D ad kI kJ (h, .inr (0, [.ref r1, .ref f1, .ref s1, .int (nI cn)])) (r1, .inl (kI, 4000, .inl R)) (f1, .inl (kI, 4000, .inl F)) (s1, .inl (kI, 4000, .inl S)) (o, .inl (kJ, 1, .inr (.inl g))) hm rm fm sm R F S cn th e1 e2 e3 e4 hl9 hR hk) SC (vx_cwVW 4 hts gL2_Z_behind rfl rfl rfl (by decide +kernel) ⟨Nat.le_of_ble_eq_true rfl, Nat.le_of_ble_eq_true rfl⟩) hP hK hD hS hA hX 5 rfl rfl rfl hl.1 rfl (Nat.le_of_ble_eq_true rfl) dL_law_140 ⟨by show (cells + 1) + 1 ≤ 1047; omega, by show (slots + 6) + 6 ≤ 32286; omega⟩ (fun H locs hP hD hS => ?_)
    have hP : va_P D vwD ([(h, .inr (0, [.ref r1, .ref f1, .ref s1, .int (nI cn)])), (r1, .inl (kI, 4000, .inl R)), (f1, .inl (kI, 4000, .inl F)), (s1, .inl (kI, 4000, .inl S)), (o, .inl (kJ, 1, .inr (.inl g))), (hm, .inr (1, [.ref rm, .ref fm, .ref sm, .int (nI cn), .int (nI (rk_kB e1 e2 e3 e4 cn))])), (rm, .inl (kI, 4000, .inl R)), (fm, .inl (kI, 4000, .inl F)), (sm, .inl (kI, 4000, .inl S))]) H := hP
    have hD : va_D A ([(h, .inr (0, [.ref r1, .ref f1, .ref s1, .int (nI cn)])), (r1, .inl (kI, 4000, .inl R)), (f1, .inl (kI, 4000, .inl F)), (s1, .inl (kI, 4000, .inl S)), (o, .inl (kJ, 1, .inr (.inl g))), (hm, .inr (1, [.ref rm, .ref fm, .ref sm, .int (nI cn), .int (nI (rk_kB e1 e2 e3 e4 cn))])), (rm, .inl (kI, 4000, .inl R)), (fm, .inl (kI, 4000, .inl F)), (sm, .inl (kI, 4000, .inl S))]) := hD
    refine lv_istore (lv' := [(6, .int 0), (5, .int (nI (rk_kB e1 e2 e3 e4 cn))), (4, .int (nI (5 * i))), (3, .ref o), (2, .ref hm), (1, .ref h), (0, .ref b)]) hx hb dL_law_143 hl (by decide) rfl (fun ls hl => ?_)
    refine lv_aload_n hx hb dL_law_145 rfl (lv_at hl 4 rfl) ?_
    refine r_i (rm := ({ frames := 0, cells := 0, slots := 0, locals := 0 } : Room)) (As := []) (rest := []) (j_tn l D ad kI kJ (h, .inr (0, [.ref r1, .ref f1, .ref s1, .int (nI cn)])) (r1, .inl (kI, 4000, .inl R)) (f1, .inl (kI, 4000, .inl F)) (s1, .inl (kI, 4000, .inl S)) (o, .inl (kJ, 1, .inr (.inl g))) hm rm fm sm R F S cn (nI (rk_kB e1 e2 e3 e4 cn))) SC (cwV 0 hts gL2_Z_thrown rfl rfl rfl (by decide +kernel) ⟨Nat.le_of_ble_eq_true rfl, Nat.le_of_ble_eq_true rfl⟩) hP hK hD hS hA hX 5 rfl rfl rfl hl.1 rfl (Nat.le_of_ble_eq_true rfl) dL_law_146 ⟨by show ((cells + 1) + 1) + 0 ≤ 1047; omega, by show ((slots + 6) + 6) + 0 ≤ 32286; omega⟩ (fun H locs hP hD hS => ?_)
    have hP : va_P D vwD ([(h, .inr (0, [.ref r1, .ref f1, .ref s1, .int (nI cn)])), (r1, .inl (kI, 4000, .inl R)), (f1, .inl (kI, 4000, .inl F)), (s1, .inl (kI, 4000, .inl S)), (o, .inl (kJ, 1, .inr (.inl g))), (hm, .inr (1, [.ref rm, .ref fm, .ref sm, .int (nI cn), .int (nI (rk_kB e1 e2 e3 e4 cn))])), (rm, .inl (kI, 4000, .inl R)), (fm, .inl (kI, 4000, .inl F)), (sm, .inl (kI, 4000, .inl S))]) H := hP
    have hD : va_D A ([(h, .inr (0, [.ref r1, .ref f1, .ref s1, .int (nI cn)])), (r1, .inl (kI, 4000, .inl R)), (f1, .inl (kI, 4000, .inl F)), (s1, .inl (kI, 4000, .inl S)), (o, .inl (kJ, 1, .inr (.inl g))), (hm, .inr (1, [.ref rm, .ref fm, .ref sm, .int (nI cn), .int (nI (rk_kB e1 e2 e3 e4 cn))])), (rm, .inl (kI, 4000, .inl R)), (fm, .inl (kI, 4000, .inl F)), (sm, .inl (kI, 4000, .inl S))]) := hD
    refine lv_iload hx hb dL_law_149 (lv_at hl 1 rfl) ?_
    refine lv_icmp_eq (tgt := 156) hx hb dL_law_151 (by decide) (fun _ => ?_) (fun h9 => absurd (rfl) h9)
    refine lv_iload hx hb dL_law_156 (lv_at hl 1 rfl) ?_
    refine lv_if_ne (tgt := 173) hx hb dL_law_158 (by decide) (fun _ => ?_) (fun h9 => absurd h9 (rk_nz (rk_kB_r e1 e2 e3 e4 cn) hk))
    refine lv_goto (tgt := 585) hx hb dL_law_173 (by decide) ?_
    refine W.widen (k := cells + 2) (n := slots + 12) (by omega) (by omega) ?_
    exact kk R F S cn g (nI (rk_kB e1 e2 e3 e4 cn)) H locs ls (hR) hP hD hS (lv_sub hl [2, 3, 4, 5, 6] rfl)
set_option maxHeartbeats 4000000 in
set_option maxRecDepth 100000 in
theorem lc_before {p : Program} {l : Launch} {e : Env} {s : State} {m : MethodId} {below : List Frame} {meth : Method} {c : Code} {b L : Nat} {xs : Nat → Int32} {D : va_G} {ad : Nat → Nat} {kI kJ : ClassId} {A : Nat → Prop} {Q : State → Prop} (C0 : lwC p l s m c b L xs D ad kI kJ A) (h r1 f1 s1 o hm rm fm sm : Nat) (R F S : Nat → Int32) (cn : Nat) (g : Nat → Int64) (th : Int32) (hR : rk_ok R cn) (i : Nat) (hi : 5 * i + 5 ≤ L) (hL : L ≤ 2560) {H : Heap} {locs : List Loc} {cells slots : Nat} (hcc : cells + 2 ≤ 1047) (hss : slots + 12 ≤ 32286) (hP : va_P D vwD (wL h r1 f1 s1 o hm rm fm sm kI kJ R F S cn g th) H) (hD : va_D A (wL h r1 f1 s1 o hm rm fm sm kI kJ R F S cn g th)) (hS : va_S A s.heap H locs) {ls : Array Slot} (hl : lv_has ls 7 [(4, .int (nI (5 * i))), (3, .ref o), (2, .ref hm), (1, .ref h), (0, .ref b)])
    (kk : ∀ (R F S : Nat → Int32) (cn : Nat) (g : Nat → Int64) (th : Int32) (H : Heap) (locs : List Loc) (ls : Array Slot), rk_ok R cn → va_P D vwD (wL h r1 f1 s1 o hm rm fm sm kI kJ R F S cn g th) H → va_D A (wL h r1 f1 s1 o hm rm fm sm kI kJ R F S cn g th) → va_S A s.heap H locs → lv_has ls 7 [(4, .int (nI (5 * i))), (3, .ref o), (2, .ref hm), (1, .ref h), (0, .ref b)] → W p l e room_1 s m #[Value.ref b] below meth c H locs (cells + 2) (slots + 12) Q (F0 m 585 ls [])) : W p l e room_1 s m #[Value.ref b] below meth c H locs cells slots Q (F0 m 176 ls []) := by
  obtain ⟨hx, hb, hml, hown, hts, hXs, hbl, hbA, hA, hK, hX, hl9⟩ := id C0
  have SC : CallFix p m c cL_law 7 s #[Value.ref b] wsL2 RL := ⟨hx, hb, hml, hown, hts⟩
  obtain ⟨e1, he1⟩ : ∃ x, xs (nI (5 * i + 1)).toNatClampNeg = x := ⟨_, rfl⟩
  obtain ⟨e2, he2⟩ : ∃ x, xs (nI (5 * i + 2)).toNatClampNeg = x := ⟨_, rfl⟩
  obtain ⟨e3, he3⟩ : ∃ x, xs (nI (5 * i + 3)).toNatClampNeg = x := ⟨_, rfl⟩
  refine lv_aload_n hx hb dL_law_176 rfl (lv_at hl 3 rfl) ?_
  refine lv_aload_n hx hb dL_law_177 rfl (lv_at hl 4 rfl) ?_
  refine lv_iload hx hb dL_law_178 (lv_at hl 0 rfl) ?_
  refine lv_iconst (v := 1) hx hb dL_law_180 (by decide) ?_
  refine lv_iadd hx hb dL_law_181 ?_
  refine q_top (nI ((5 * i) + 1)) (nI_1 _) ?_
  refine va_sld hx hb hXs hbl hbA hS (vp_in_nI (n := ((5 * i) + 1)) (by omega) (by omega)) dL_law_182 ?_
  refine q_top e1 he1 ?_
  refine lv_aload_n hx hb dL_law_183 rfl (lv_at hl 4 rfl) ?_
  refine lv_iload hx hb dL_law_184 (lv_at hl 0 rfl) ?_
  refine lv_iconst (v := 2) hx hb dL_law_186 (by decide) ?_
  refine lv_iadd hx hb dL_law_187 ?_
  refine q_top (nI ((5 * i) + 2)) (nI_add _ 2) ?_
  refine va_sld hx hb hXs hbl hbA hS (vp_in_nI (n := ((5 * i) + 2)) (by omega) (by omega)) dL_law_188 ?_
  refine q_top e2 he2 ?_
  refine lv_aload_n hx hb dL_law_189 rfl (lv_at hl 4 rfl) ?_
  refine lv_iload hx hb dL_law_190 (lv_at hl 0 rfl) ?_
  refine lv_iconst (v := 3) hx hb dL_law_192 (by decide) ?_
  refine lv_iadd hx hb dL_law_193 ?_
  refine q_top (nI ((5 * i) + 3)) (nI_add _ 3) ?_
  refine va_sld hx hb hXs hbl hbA hS (vp_in_nI (n := ((5 * i) + 3)) (by omega) (by omega)) dL_law_194 ?_
  refine q_top e3 he3 ?_
  refine lv_aload_n hx hb dL_law_195 rfl (lv_at hl 1 rfl) ?_
  by_cases hk : rk_kF e1 e2 e3 cn = 0
  · refine r_swi (rm := ({ frames := 9, cells := 1, slots := 6, locals := 200 } : Room)) (As := [.ref h, .int e1, .int e2, .int e3, .ref o]) (rest := []) (w_before_ok l D ad kI kJ [(hm, .inr (1, [.ref rm, .ref fm, .ref sm, .int (nI cn), .int th])), (rm, .inl (kI, 4000, .inl R)), (fm, .inl (kI, 4000, .inl F)), (sm, .inl (kI, 4000, .inl S))] h r1 f1 s1 o R F S cn g e1 e2 e3 hl9 hR hk) SC (vx_cwSW 5 hts (zg_law gL_law_L_before) rfl rfl rfl (by decide +kernel) ⟨Nat.le_of_ble_eq_true rfl, Nat.le_of_ble_eq_true rfl⟩) hP hK hD hS hA hX rfl hl.1 rfl (Nat.le_of_ble_eq_true rfl) dL_law_196 ⟨by show cells + 1 ≤ 1047; omega, by show slots + 6 ≤ 32286; omega⟩ (fun H locs hP hD hS => ?_)
    have hP : va_P D vwD ([(h, .inr (0, [.ref r1, .ref f1, .ref s1, .int (nI (cn + 1))])), (r1, .inl (kI, 4000, .inl (rk_in R cn (rk_pl R e1 cn) 1))), (f1, .inl (kI, 4000, .inl (rk_fl F cn 1 e2))), (s1, .inl (kI, 4000, .inl (rk_fl S cn 1 e3))), (o, .inl (kJ, 1, .inr (.inl (vp_updL g 0 ((nI (cn + 1) - 1).toInt64))))), (hm, .inr (1, [.ref rm, .ref fm, .ref sm, .int (nI cn), .int th])), (rm, .inl (kI, 4000, .inl R)), (fm, .inl (kI, 4000, .inl F)), (sm, .inl (kI, 4000, .inl S))]) H := hP
    have hD : va_D A ([(h, .inr (0, [.ref r1, .ref f1, .ref s1, .int (nI (cn + 1))])), (r1, .inl (kI, 4000, .inl (rk_in R cn (rk_pl R e1 cn) 1))), (f1, .inl (kI, 4000, .inl (rk_fl F cn 1 e2))), (s1, .inl (kI, 4000, .inl (rk_fl S cn 1 e3))), (o, .inl (kJ, 1, .inr (.inl (vp_updL g 0 ((nI (cn + 1) - 1).toInt64))))), (hm, .inr (1, [.ref rm, .ref fm, .ref sm, .int (nI cn), .int th])), (rm, .inl (kI, 4000, .inl R)), (fm, .inl (kI, 4000, .inl F)), (sm, .inl (kI, 4000, .inl S))]) := hD
    refine lv_istore (lv' := [(5, .int 0), (4, .int (nI (5 * i))), (3, .ref o), (2, .ref hm), (1, .ref h), (0, .ref b)]) hx hb dL_law_199 hl (by decide) rfl (fun ls hl => ?_)
    refine lv_aload_n hx hb dL_law_201 rfl (lv_at hl 3 rfl) ?_
    refine lv_aload_n hx hb dL_law_202 rfl (lv_at hl 5 rfl) ?_
    refine lv_iload hx hb dL_law_203 (lv_at hl 1 rfl) ?_
    refine lv_iconst (v := 1) hx hb dL_law_205 (by decide) ?_
    refine lv_iadd hx hb dL_law_206 ?_
    refine q_top (nI ((5 * i) + 1)) (nI_1 _) ?_
    refine va_sld hx hb hXs hbl hbA hS (vp_in_nI (n := ((5 * i) + 1)) (by omega) (by omega)) dL_law_207 ?_
    refine q_top e1 he1 ?_
    refine lv_aload_n hx hb dL_law_208 rfl (lv_at hl 5 rfl) ?_
    refine lv_iload hx hb dL_law_209 (lv_at hl 1 rfl) ?_
    refine lv_iconst (v := 2) hx hb dL_law_211 (by decide) ?_
    refine lv_iadd hx hb dL_law_212 ?_
    refine q_top (nI ((5 * i) + 2)) (nI_add _ 2) ?_
    refine va_sld hx hb hXs hbl hbA hS (vp_in_nI (n := ((5 * i) + 2)) (by omega) (by omega)) dL_law_213 ?_
    refine q_top e2 he2 ?_
    refine lv_aload_n hx hb dL_law_214 rfl (lv_at hl 5 rfl) ?_
    refine lv_iload hx hb dL_law_215 (lv_at hl 1 rfl) ?_
    refine lv_iconst (v := 3) hx hb dL_law_217 (by decide) ?_
    refine lv_iadd hx hb dL_law_218 ?_
    refine q_top (nI ((5 * i) + 3)) (nI_add _ 3) ?_
    refine va_sld hx hb hXs hbl hbA hS (vp_in_nI (n := ((5 * i) + 3)) (by omega) (by omega)) dL_law_219 ?_
    refine q_top e3 he3 ?_
    refine r_vwi (rm := ({ frames := 8, cells := 1, slots := 6, locals := 180 } : Room)) (As := [.int e1, .int e2, .int e3]) (rest := []) (p_before_ok l D ad kI kJ (h, .inr (0, [.ref r1, .ref f1, .ref s1, .int (nI (cn + 1))])) (r1, .inl (kI, 4000, .inl (rk_in R cn (rk_pl R e1 cn) 1))) (f1, .inl (kI, 4000, .inl (rk_fl F cn 1 e2))) (s1, .inl (kI, 4000, .inl (rk_fl S cn 1 e3))) (o, .inl (kJ, 1, .inr (.inl (vp_updL g 0 ((nI (cn + 1) - 1).toInt64))))) hm rm fm sm R F S cn th e1 e2 e3 hl9 hR hk) SC (vx_cwVW 3 hts gL2_Z_before rfl rfl rfl (by decide +kernel) ⟨Nat.le_of_ble_eq_true rfl, Nat.le_of_ble_eq_true rfl⟩) hP hK hD hS hA hX 5 rfl rfl rfl hl.1 rfl (Nat.le_of_ble_eq_true rfl) dL_law_220 ⟨by show (cells + 1) + 1 ≤ 1047; omega, by show (slots + 6) + 6 ≤ 32286; omega⟩ (fun H locs hP hD hS => ?_)
    have hP : va_P D vwD ([(h, .inr (0, [.ref r1, .ref f1, .ref s1, .int (nI (cn + 1))])), (r1, .inl (kI, 4000, .inl (rk_in R cn (rk_pl R e1 cn) 1))), (f1, .inl (kI, 4000, .inl (rk_fl F cn 1 e2))), (s1, .inl (kI, 4000, .inl (rk_fl S cn 1 e3))), (o, .inl (kJ, 1, .inr (.inl (vp_updL g 0 ((nI (cn + 1) - 1).toInt64))))), (hm, .inr (1, [.ref rm, .ref fm, .ref sm, .int (nI (cn + 1)), .int 0])), (rm, .inl (kI, 4000, .inl (rk_in R cn (rk_pl R e1 cn) 1))), (fm, .inl (kI, 4000, .inl (rk_fl F cn 1 e2))), (sm, .inl (kI, 4000, .inl (rk_fl S cn 1 e3)))]) H := hP
    have hD : va_D A ([(h, .inr (0, [.ref r1, .ref f1, .ref s1, .int (nI (cn + 1))])), (r1, .inl (kI, 4000, .inl (rk_in R cn (rk_pl R e1 cn) 1))), (f1, .inl (kI, 4000, .inl (rk_fl F cn 1 e2))), (s1, .inl (kI, 4000, .inl (rk_fl S cn 1 e3))), (o, .inl (kJ, 1, .inr (.inl (vp_updL g 0 ((nI (cn + 1) - 1).toInt64))))), (hm, .inr (1, [.ref rm, .ref fm, .ref sm, .int (nI (cn + 1)), .int 0])), (rm, .inl (kI, 4000, .inl (rk_in R cn (rk_pl R e1 cn) 1))), (fm, .inl (kI, 4000, .inl (rk_fl F cn 1 e2))), (sm, .inl (kI, 4000, .inl (rk_fl S cn 1 e3)))]) := hD
    refine lv_istore (lv' := [(6, .int (nI (cn + 1) - 1)), (5, .int 0), (4, .int (nI (5 * i))), (3, .ref o), (2, .ref hm), (1, .ref h), (0, .ref b)]) hx hb dL_law_223 hl (by decide) rfl (fun ls hl => ?_)
    refine lv_aload_n hx hb dL_law_225 rfl (lv_at hl 4 rfl) ?_
    refine r_i (rm := ({ frames := 0, cells := 0, slots := 0, locals := 0 } : Room)) (As := []) (rest := []) (j_tn l D ad kI kJ (h, .inr (0, [.ref r1, .ref f1, .ref s1, .int (nI (cn + 1))])) (r1, .inl (kI, 4000, .inl (rk_in R cn (rk_pl R e1 cn) 1))) (f1, .inl (kI, 4000, .inl (rk_fl F cn 1 e2))) (s1, .inl (kI, 4000, .inl (rk_fl S cn 1 e3))) (o, .inl (kJ, 1, .inr (.inl (vp_updL g 0 ((nI (cn + 1) - 1).toInt64))))) hm rm fm sm (rk_in R cn (rk_pl R e1 cn) 1) (rk_fl F cn 1 e2) (rk_fl S cn 1 e3) (cn + 1) 0) SC (cwV 0 hts gL2_Z_thrown rfl rfl rfl (by decide +kernel) ⟨Nat.le_of_ble_eq_true rfl, Nat.le_of_ble_eq_true rfl⟩) hP hK hD hS hA hX 5 rfl rfl rfl hl.1 rfl (Nat.le_of_ble_eq_true rfl) dL_law_226 ⟨by show ((cells + 1) + 1) + 0 ≤ 1047; omega, by show ((slots + 6) + 6) + 0 ≤ 32286; omega⟩ (fun H locs hP hD hS => ?_)
    have hP : va_P D vwD ([(h, .inr (0, [.ref r1, .ref f1, .ref s1, .int (nI (cn + 1))])), (r1, .inl (kI, 4000, .inl (rk_in R cn (rk_pl R e1 cn) 1))), (f1, .inl (kI, 4000, .inl (rk_fl F cn 1 e2))), (s1, .inl (kI, 4000, .inl (rk_fl S cn 1 e3))), (o, .inl (kJ, 1, .inr (.inl (vp_updL g 0 ((nI (cn + 1) - 1).toInt64))))), (hm, .inr (1, [.ref rm, .ref fm, .ref sm, .int (nI (cn + 1)), .int 0])), (rm, .inl (kI, 4000, .inl (rk_in R cn (rk_pl R e1 cn) 1))), (fm, .inl (kI, 4000, .inl (rk_fl F cn 1 e2))), (sm, .inl (kI, 4000, .inl (rk_fl S cn 1 e3)))]) H := hP
    have hD : va_D A ([(h, .inr (0, [.ref r1, .ref f1, .ref s1, .int (nI (cn + 1))])), (r1, .inl (kI, 4000, .inl (rk_in R cn (rk_pl R e1 cn) 1))), (f1, .inl (kI, 4000, .inl (rk_fl F cn 1 e2))), (s1, .inl (kI, 4000, .inl (rk_fl S cn 1 e3))), (o, .inl (kJ, 1, .inr (.inl (vp_updL g 0 ((nI (cn + 1) - 1).toInt64))))), (hm, .inr (1, [.ref rm, .ref fm, .ref sm, .int (nI (cn + 1)), .int 0])), (rm, .inl (kI, 4000, .inl (rk_in R cn (rk_pl R e1 cn) 1))), (fm, .inl (kI, 4000, .inl (rk_fl F cn 1 e2))), (sm, .inl (kI, 4000, .inl (rk_fl S cn 1 e3)))]) := hD
    refine lv_iload hx hb dL_law_229 (lv_at hl 1 rfl) ?_
    refine lv_icmp_eq (tgt := 236) hx hb dL_law_231 (by decide) (fun _ => ?_) (fun h9 => absurd (rfl) h9)
    refine lv_iload hx hb dL_law_236 (lv_at hl 1 rfl) ?_
    refine lv_if_ne (tgt := 253) hx hb dL_law_238 (by decide) (fun h9 => absurd h9 (fun q => q rfl)) (fun _ => ?_)
    refine lv_aload_n hx hb dL_law_241 rfl (lv_at hl 3 rfl) ?_
    refine lv_iconst (v := 0) hx hb dL_law_242 (by decide) ?_
    refine va_lald hx hb hK hP 4 1 rfl rfl (vp_in_nI (n := 0) (N := 1) (by decide) (by decide)) dL_law_243 ?_
    refine q_topl ((nI (cn + 1) - 1).toInt64) (by rw [sb_cl0, pk_uLs]) ?_
    refine lv_iload hx hb dL_law_244 (lv_at hl 0 rfl) ?_
    refine lv_i2l hx hb dL_law_246 rfl ?_
    refine W.lcmp hx hb dL_law_247 ?_
    refine q_top 0 ((lg_cmp_eq _ _).mpr rfl) ?_
    refine lv_if_eq (tgt := 253) hx hb dL_law_248 (by decide) (fun _ => ?_) (fun h9 => absurd (rfl) h9)
    refine lv_goto (tgt := 585) hx hb dL_law_253 (by decide) ?_
    refine W.widen (k := cells + 2) (n := slots + 12) (by omega) (by omega) ?_
    exact kk (rk_in R cn (rk_pl R e1 cn) 1) (rk_fl F cn 1 e2) (rk_fl S cn 1 e3) (cn + 1) (vp_updL g 0 ((nI (cn + 1) - 1).toInt64)) 0 H locs ls (rk_ok_in hR (rk_pl_le R e1 cn) (rk_kF_i hk)) hP hD hS (lv_sub hl [2, 3, 4, 5, 6] rfl)
  · refine r_swi (rm := ({ frames := 9, cells := 1, slots := 6, locals := 200 } : Room)) (As := [.ref h, .int e1, .int e2, .int e3, .ref o]) (rest := []) (w_before_bad l D ad kI kJ [(hm, .inr (1, [.ref rm, .ref fm, .ref sm, .int (nI cn), .int th])), (rm, .inl (kI, 4000, .inl R)), (fm, .inl (kI, 4000, .inl F)), (sm, .inl (kI, 4000, .inl S))] h r1 f1 s1 o R F S cn g e1 e2 e3 hl9 hR hk) SC (vx_cwSW 5 hts (zg_law gL_law_L_before) rfl rfl rfl (by decide +kernel) ⟨Nat.le_of_ble_eq_true rfl, Nat.le_of_ble_eq_true rfl⟩) hP hK hD hS hA hX rfl hl.1 rfl (Nat.le_of_ble_eq_true rfl) dL_law_196 ⟨by show cells + 1 ≤ 1047; omega, by show slots + 6 ≤ 32286; omega⟩ (fun H locs hP hD hS => ?_)
    have hP : va_P D vwD ([(h, .inr (0, [.ref r1, .ref f1, .ref s1, .int (nI cn)])), (r1, .inl (kI, 4000, .inl R)), (f1, .inl (kI, 4000, .inl F)), (s1, .inl (kI, 4000, .inl S)), (o, .inl (kJ, 1, .inr (.inl g))), (hm, .inr (1, [.ref rm, .ref fm, .ref sm, .int (nI cn), .int th])), (rm, .inl (kI, 4000, .inl R)), (fm, .inl (kI, 4000, .inl F)), (sm, .inl (kI, 4000, .inl S))]) H := hP
    have hD : va_D A ([(h, .inr (0, [.ref r1, .ref f1, .ref s1, .int (nI cn)])), (r1, .inl (kI, 4000, .inl R)), (f1, .inl (kI, 4000, .inl F)), (s1, .inl (kI, 4000, .inl S)), (o, .inl (kJ, 1, .inr (.inl g))), (hm, .inr (1, [.ref rm, .ref fm, .ref sm, .int (nI cn), .int th])), (rm, .inl (kI, 4000, .inl R)), (fm, .inl (kI, 4000, .inl F)), (sm, .inl (kI, 4000, .inl S))]) := hD
    refine lv_istore (lv' := [(5, .int (nI (rk_kF e1 e2 e3 cn))), (4, .int (nI (5 * i))), (3, .ref o), (2, .ref hm), (1, .ref h), (0, .ref b)]) hx hb dL_law_199 hl (by decide) rfl (fun ls hl => ?_)
    refine lv_aload_n hx hb dL_law_201 rfl (lv_at hl 3 rfl) ?_
    refine lv_aload_n hx hb dL_law_202 rfl (lv_at hl 5 rfl) ?_
    refine lv_iload hx hb dL_law_203 (lv_at hl 1 rfl) ?_
    refine lv_iconst (v := 1) hx hb dL_law_205 (by decide) ?_
    refine lv_iadd hx hb dL_law_206 ?_
    refine q_top (nI ((5 * i) + 1)) (nI_1 _) ?_
    refine va_sld hx hb hXs hbl hbA hS (vp_in_nI (n := ((5 * i) + 1)) (by omega) (by omega)) dL_law_207 ?_
    refine q_top e1 he1 ?_
    refine lv_aload_n hx hb dL_law_208 rfl (lv_at hl 5 rfl) ?_
    refine lv_iload hx hb dL_law_209 (lv_at hl 1 rfl) ?_
    refine lv_iconst (v := 2) hx hb dL_law_211 (by decide) ?_
    refine lv_iadd hx hb dL_law_212 ?_
    refine q_top (nI ((5 * i) + 2)) (nI_add _ 2) ?_
    refine va_sld hx hb hXs hbl hbA hS (vp_in_nI (n := ((5 * i) + 2)) (by omega) (by omega)) dL_law_213 ?_
    refine q_top e2 he2 ?_
    refine lv_aload_n hx hb dL_law_214 rfl (lv_at hl 5 rfl) ?_
    refine lv_iload hx hb dL_law_215 (lv_at hl 1 rfl) ?_
    refine lv_iconst (v := 3) hx hb dL_law_217 (by decide) ?_
    refine lv_iadd hx hb dL_law_218 ?_
    refine q_top (nI ((5 * i) + 3)) (nI_add _ 3) ?_
    refine va_sld hx hb hXs hbl hbA hS (vp_in_nI (n := ((5 * i) + 3)) (by omega) (by omega)) dL_law_219 ?_
    refine q_top e3 he3 ?_
    refine r_vwi (rm := ({ frames := 8, cells := 1, slots := 6, locals := 180 } : Room)) (As := [.int e1, .int e2, .int e3]) (rest := []) (p_before_bad l D ad kI kJ (h, .inr (0, [.ref r1, .ref f1, .ref s1, .int (nI cn)])) (r1, .inl (kI, 4000, .inl R)) (f1, .inl (kI, 4000, .inl F)) (s1, .inl (kI, 4000, .inl S)) (o, .inl (kJ, 1, .inr (.inl g))) hm rm fm sm R F S cn th e1 e2 e3 hl9 hR hk) SC (vx_cwVW 3 hts gL2_Z_before rfl rfl rfl (by decide +kernel) ⟨Nat.le_of_ble_eq_true rfl, Nat.le_of_ble_eq_true rfl⟩) hP hK hD hS hA hX 5 rfl rfl rfl hl.1 rfl (Nat.le_of_ble_eq_true rfl) dL_law_220 ⟨by show (cells + 1) + 1 ≤ 1047; omega, by show (slots + 6) + 6 ≤ 32286; omega⟩ (fun H locs hP hD hS => ?_)
    have hP : va_P D vwD ([(h, .inr (0, [.ref r1, .ref f1, .ref s1, .int (nI cn)])), (r1, .inl (kI, 4000, .inl R)), (f1, .inl (kI, 4000, .inl F)), (s1, .inl (kI, 4000, .inl S)), (o, .inl (kJ, 1, .inr (.inl g))), (hm, .inr (1, [.ref rm, .ref fm, .ref sm, .int (nI cn), .int (nI (rk_kF e1 e2 e3 cn))])), (rm, .inl (kI, 4000, .inl R)), (fm, .inl (kI, 4000, .inl F)), (sm, .inl (kI, 4000, .inl S))]) H := hP
    have hD : va_D A ([(h, .inr (0, [.ref r1, .ref f1, .ref s1, .int (nI cn)])), (r1, .inl (kI, 4000, .inl R)), (f1, .inl (kI, 4000, .inl F)), (s1, .inl (kI, 4000, .inl S)), (o, .inl (kJ, 1, .inr (.inl g))), (hm, .inr (1, [.ref rm, .ref fm, .ref sm, .int (nI cn), .int (nI (rk_kF e1 e2 e3 cn))])), (rm, .inl (kI, 4000, .inl R)), (fm, .inl (kI, 4000, .inl F)), (sm, .inl (kI, 4000, .inl S))]) := hD
    refine lv_istore (lv' := [(6, .int 0), (5, .int (nI (rk_kF e1 e2 e3 cn))), (4, .int (nI (5 * i))), (3, .ref o), (2, .ref hm), (1, .ref h), (0, .ref b)]) hx hb dL_law_223 hl (by decide) rfl (fun ls hl => ?_)
    refine lv_aload_n hx hb dL_law_225 rfl (lv_at hl 4 rfl) ?_
    refine r_i (rm := ({ frames := 0, cells := 0, slots := 0, locals := 0 } : Room)) (As := []) (rest := []) (j_tn l D ad kI kJ (h, .inr (0, [.ref r1, .ref f1, .ref s1, .int (nI cn)])) (r1, .inl (kI, 4000, .inl R)) (f1, .inl (kI, 4000, .inl F)) (s1, .inl (kI, 4000, .inl S)) (o, .inl (kJ, 1, .inr (.inl g))) hm rm fm sm R F S cn (nI (rk_kF e1 e2 e3 cn))) SC (cwV 0 hts gL2_Z_thrown rfl rfl rfl (by decide +kernel) ⟨Nat.le_of_ble_eq_true rfl, Nat.le_of_ble_eq_true rfl⟩) hP hK hD hS hA hX 5 rfl rfl rfl hl.1 rfl (Nat.le_of_ble_eq_true rfl) dL_law_226 ⟨by show ((cells + 1) + 1) + 0 ≤ 1047; omega, by show ((slots + 6) + 6) + 0 ≤ 32286; omega⟩ (fun H locs hP hD hS => ?_)
    have hP : va_P D vwD ([(h, .inr (0, [.ref r1, .ref f1, .ref s1, .int (nI cn)])), (r1, .inl (kI, 4000, .inl R)), (f1, .inl (kI, 4000, .inl F)), (s1, .inl (kI, 4000, .inl S)), (o, .inl (kJ, 1, .inr (.inl g))), (hm, .inr (1, [.ref rm, .ref fm, .ref sm, .int (nI cn), .int (nI (rk_kF e1 e2 e3 cn))])), (rm, .inl (kI, 4000, .inl R)), (fm, .inl (kI, 4000, .inl F)), (sm, .inl (kI, 4000, .inl S))]) H := hP
    have hD : va_D A ([(h, .inr (0, [.ref r1, .ref f1, .ref s1, .int (nI cn)])), (r1, .inl (kI, 4000, .inl R)), (f1, .inl (kI, 4000, .inl F)), (s1, .inl (kI, 4000, .inl S)), (o, .inl (kJ, 1, .inr (.inl g))), (hm, .inr (1, [.ref rm, .ref fm, .ref sm, .int (nI cn), .int (nI (rk_kF e1 e2 e3 cn))])), (rm, .inl (kI, 4000, .inl R)), (fm, .inl (kI, 4000, .inl F)), (sm, .inl (kI, 4000, .inl S))]) := hD
    refine lv_iload hx hb dL_law_229 (lv_at hl 1 rfl) ?_
    refine lv_icmp_eq (tgt := 236) hx hb dL_law_231 (by decide) (fun _ => ?_) (fun h9 => absurd (rfl) h9)
    refine lv_iload hx hb dL_law_236 (lv_at hl 1 rfl) ?_
    refine lv_if_ne (tgt := 253) hx hb dL_law_238 (by decide) (fun _ => ?_) (fun h9 => absurd h9 (rk_nz (rk_kF_r e1 e2 e3 cn) hk))
    refine lv_goto (tgt := 585) hx hb dL_law_253 (by decide) ?_
    refine W.widen (k := cells + 2) (n := slots + 12) (by omega) (by omega) ?_
    exact kk R F S cn g (nI (rk_kF e1 e2 e3 cn)) H locs ls (hR) hP hD hS (lv_sub hl [2, 3, 4, 5, 6] rfl)
set_option maxHeartbeats 4000000 in
set_option maxRecDepth 100000 in
theorem lc_weigh {p : Program} {l : Launch} {e : Env} {s : State} {m : MethodId} {below : List Frame} {meth : Method} {c : Code} {b L : Nat} {xs : Nat → Int32} {D : va_G} {ad : Nat → Nat} {kI kJ : ClassId} {A : Nat → Prop} {Q : State → Prop} (C0 : lwC p l s m c b L xs D ad kI kJ A) (h r1 f1 s1 o hm rm fm sm : Nat) (R F S : Nat → Int32) (cn : Nat) (g : Nat → Int64) (th : Int32) (hR : rk_ok R cn) (i : Nat) (hi : 5 * i + 5 ≤ L) (hL : L ≤ 2560) {H : Heap} {locs : List Loc} {cells slots : Nat} (hcc : cells + 2 ≤ 1047) (hss : slots + 12 ≤ 32286) (hP : va_P D vwD (wL h r1 f1 s1 o hm rm fm sm kI kJ R F S cn g th) H) (hD : va_D A (wL h r1 f1 s1 o hm rm fm sm kI kJ R F S cn g th)) (hS : va_S A s.heap H locs) {ls : Array Slot} (hl : lv_has ls 7 [(4, .int (nI (5 * i))), (3, .ref o), (2, .ref hm), (1, .ref h), (0, .ref b)])
    (kk : ∀ (R F S : Nat → Int32) (cn : Nat) (g : Nat → Int64) (th : Int32) (H : Heap) (locs : List Loc) (ls : Array Slot), rk_ok R cn → va_P D vwD (wL h r1 f1 s1 o hm rm fm sm kI kJ R F S cn g th) H → va_D A (wL h r1 f1 s1 o hm rm fm sm kI kJ R F S cn g th) → va_S A s.heap H locs → lv_has ls 7 [(4, .int (nI (5 * i))), (3, .ref o), (2, .ref hm), (1, .ref h), (0, .ref b)] → W p l e room_1 s m #[Value.ref b] below meth c H locs (cells + 2) (slots + 12) Q (F0 m 585 ls [])) : W p l e room_1 s m #[Value.ref b] below meth c H locs cells slots Q (F0 m 256 ls []) := by
  obtain ⟨hx, hb, hml, hown, hts, hXs, hbl, hbA, hA, hK, hX, hl9⟩ := id C0
  have SC : CallFix p m c cL_law 7 s #[Value.ref b] wsL2 RL := ⟨hx, hb, hml, hown, hts⟩
  obtain ⟨e1, he1⟩ : ∃ x, xs (nI (5 * i + 1)).toNatClampNeg = x := ⟨_, rfl⟩
  obtain ⟨e2, he2⟩ : ∃ x, xs (nI (5 * i + 2)).toNatClampNeg = x := ⟨_, rfl⟩
  obtain ⟨e3, he3⟩ : ∃ x, xs (nI (5 * i + 3)).toNatClampNeg = x := ⟨_, rfl⟩
  refine lv_aload_n hx hb dL_law_256 rfl (lv_at hl 3 rfl) ?_
  refine lv_aload_n hx hb dL_law_257 rfl (lv_at hl 4 rfl) ?_
  refine lv_iload hx hb dL_law_258 (lv_at hl 0 rfl) ?_
  refine lv_iconst (v := 1) hx hb dL_law_260 (by decide) ?_
  refine lv_iadd hx hb dL_law_261 ?_
  refine q_top (nI ((5 * i) + 1)) (nI_1 _) ?_
  refine va_sld hx hb hXs hbl hbA hS (vp_in_nI (n := ((5 * i) + 1)) (by omega) (by omega)) dL_law_262 ?_
  refine q_top e1 he1 ?_
  refine lv_aload_n hx hb dL_law_263 rfl (lv_at hl 4 rfl) ?_
  refine lv_iload hx hb dL_law_264 (lv_at hl 0 rfl) ?_
  refine lv_iconst (v := 2) hx hb dL_law_266 (by decide) ?_
  refine lv_iadd hx hb dL_law_267 ?_
  refine q_top (nI ((5 * i) + 2)) (nI_add _ 2) ?_
  refine va_sld hx hb hXs hbl hbA hS (vp_in_nI (n := ((5 * i) + 2)) (by omega) (by omega)) dL_law_268 ?_
  refine q_top e2 he2 ?_
  refine lv_aload_n hx hb dL_law_269 rfl (lv_at hl 4 rfl) ?_
  refine lv_iload hx hb dL_law_270 (lv_at hl 0 rfl) ?_
  refine lv_iconst (v := 3) hx hb dL_law_272 (by decide) ?_
  refine lv_iadd hx hb dL_law_273 ?_
  refine q_top (nI ((5 * i) + 3)) (nI_add _ 3) ?_
  refine va_sld hx hb hXs hbl hbA hS (vp_in_nI (n := ((5 * i) + 3)) (by omega) (by omega)) dL_law_274 ?_
  refine q_top e3 he3 ?_
  refine lv_aload_n hx hb dL_law_275 rfl (lv_at hl 1 rfl) ?_
  by_cases hk : rk_kW e1 e2 e3 cn = 0
  · refine r_swi (rm := ({ frames := 9, cells := 1, slots := 6, locals := 200 } : Room)) (As := [.ref h, .int e1, .int e2, .int e3, .ref o]) (rest := []) (w_weigh_ok l D ad kI kJ [(hm, .inr (1, [.ref rm, .ref fm, .ref sm, .int (nI cn), .int th])), (rm, .inl (kI, 4000, .inl R)), (fm, .inl (kI, 4000, .inl F)), (sm, .inl (kI, 4000, .inl S))] h r1 f1 s1 o R F S cn g e1 e2 e3 hl9 hR hk) SC (vx_cwSW 5 hts (zg_law gL_law_L_weigh) rfl rfl rfl (by decide +kernel) ⟨Nat.le_of_ble_eq_true rfl, Nat.le_of_ble_eq_true rfl⟩) hP hK hD hS hA hX rfl hl.1 rfl (Nat.le_of_ble_eq_true rfl) dL_law_276 ⟨by show cells + 1 ≤ 1047; omega, by show slots + 6 ≤ 32286; omega⟩ (fun H locs hP hD hS => ?_)
    have hP : va_P D vwD ([(h, .inr (0, [.ref r1, .ref f1, .ref s1, .int (nI cn)])), (r1, .inl (kI, 4000, .inl R)), (f1, .inl (kI, 4000, .inl (upd F e1.toNatClampNeg e2))), (s1, .inl (kI, 4000, .inl (upd S e1.toNatClampNeg e3))), (o, .inl (kJ, 1, .inr (.inl (vp_updL g 0 ((F e1.toNatClampNeg).toInt64))))), (hm, .inr (1, [.ref rm, .ref fm, .ref sm, .int (nI cn), .int th])), (rm, .inl (kI, 4000, .inl R)), (fm, .inl (kI, 4000, .inl F)), (sm, .inl (kI, 4000, .inl S))]) H := hP
    have hD : va_D A ([(h, .inr (0, [.ref r1, .ref f1, .ref s1, .int (nI cn)])), (r1, .inl (kI, 4000, .inl R)), (f1, .inl (kI, 4000, .inl (upd F e1.toNatClampNeg e2))), (s1, .inl (kI, 4000, .inl (upd S e1.toNatClampNeg e3))), (o, .inl (kJ, 1, .inr (.inl (vp_updL g 0 ((F e1.toNatClampNeg).toInt64))))), (hm, .inr (1, [.ref rm, .ref fm, .ref sm, .int (nI cn), .int th])), (rm, .inl (kI, 4000, .inl R)), (fm, .inl (kI, 4000, .inl F)), (sm, .inl (kI, 4000, .inl S))]) := hD
    refine lv_istore (lv' := [(5, .int 0), (4, .int (nI (5 * i))), (3, .ref o), (2, .ref hm), (1, .ref h), (0, .ref b)]) hx hb dL_law_279 hl (by decide) rfl (fun ls hl => ?_)
    refine lv_aload_n hx hb dL_law_281 rfl (lv_at hl 3 rfl) ?_
    refine lv_aload_n hx hb dL_law_282 rfl (lv_at hl 5 rfl) ?_
    refine lv_iload hx hb dL_law_283 (lv_at hl 1 rfl) ?_
    refine lv_iconst (v := 1) hx hb dL_law_285 (by decide) ?_
    refine lv_iadd hx hb dL_law_286 ?_
    refine q_top (nI ((5 * i) + 1)) (nI_1 _) ?_
    refine va_sld hx hb hXs hbl hbA hS (vp_in_nI (n := ((5 * i) + 1)) (by omega) (by omega)) dL_law_287 ?_
    refine q_top e1 he1 ?_
    refine lv_aload_n hx hb dL_law_288 rfl (lv_at hl 5 rfl) ?_
    refine lv_iload hx hb dL_law_289 (lv_at hl 1 rfl) ?_
    refine lv_iconst (v := 2) hx hb dL_law_291 (by decide) ?_
    refine lv_iadd hx hb dL_law_292 ?_
    refine q_top (nI ((5 * i) + 2)) (nI_add _ 2) ?_
    refine va_sld hx hb hXs hbl hbA hS (vp_in_nI (n := ((5 * i) + 2)) (by omega) (by omega)) dL_law_293 ?_
    refine q_top e2 he2 ?_
    refine lv_aload_n hx hb dL_law_294 rfl (lv_at hl 5 rfl) ?_
    refine lv_iload hx hb dL_law_295 (lv_at hl 1 rfl) ?_
    refine lv_iconst (v := 3) hx hb dL_law_297 (by decide) ?_
    refine lv_iadd hx hb dL_law_298 ?_
    refine q_top (nI ((5 * i) + 3)) (nI_add _ 3) ?_
    refine va_sld hx hb hXs hbl hbA hS (vp_in_nI (n := ((5 * i) + 3)) (by omega) (by omega)) dL_law_299 ?_
    refine q_top e3 he3 ?_
    refine r_vwi (rm := ({ frames := 8, cells := 1, slots := 6, locals := 180 } : Room)) (As := [.int e1, .int e2, .int e3]) (rest := []) (p_weigh_ok l D ad kI kJ (h, .inr (0, [.ref r1, .ref f1, .ref s1, .int (nI cn)])) (r1, .inl (kI, 4000, .inl R)) (f1, .inl (kI, 4000, .inl (upd F e1.toNatClampNeg e2))) (s1, .inl (kI, 4000, .inl (upd S e1.toNatClampNeg e3))) (o, .inl (kJ, 1, .inr (.inl (vp_updL g 0 ((F e1.toNatClampNeg).toInt64))))) hm rm fm sm R F S cn th e1 e2 e3 hl9 hR hk) SC (vx_cwVW 3 hts gL2_Z_weigh rfl rfl rfl (by decide +kernel) ⟨Nat.le_of_ble_eq_true rfl, Nat.le_of_ble_eq_true rfl⟩) hP hK hD hS hA hX 5 rfl rfl rfl hl.1 rfl (Nat.le_of_ble_eq_true rfl) dL_law_300 ⟨by show (cells + 1) + 1 ≤ 1047; omega, by show (slots + 6) + 6 ≤ 32286; omega⟩ (fun H locs hP hD hS => ?_)
    have hP : va_P D vwD ([(h, .inr (0, [.ref r1, .ref f1, .ref s1, .int (nI cn)])), (r1, .inl (kI, 4000, .inl R)), (f1, .inl (kI, 4000, .inl (upd F e1.toNatClampNeg e2))), (s1, .inl (kI, 4000, .inl (upd S e1.toNatClampNeg e3))), (o, .inl (kJ, 1, .inr (.inl (vp_updL g 0 ((F e1.toNatClampNeg).toInt64))))), (hm, .inr (1, [.ref rm, .ref fm, .ref sm, .int (nI cn), .int 0])), (rm, .inl (kI, 4000, .inl R)), (fm, .inl (kI, 4000, .inl (upd F e1.toNatClampNeg e2))), (sm, .inl (kI, 4000, .inl (upd S e1.toNatClampNeg e3)))]) H := hP
    have hD : va_D A ([(h, .inr (0, [.ref r1, .ref f1, .ref s1, .int (nI cn)])), (r1, .inl (kI, 4000, .inl R)), (f1, .inl (kI, 4000, .inl (upd F e1.toNatClampNeg e2))), (s1, .inl (kI, 4000, .inl (upd S e1.toNatClampNeg e3))), (o, .inl (kJ, 1, .inr (.inl (vp_updL g 0 ((F e1.toNatClampNeg).toInt64))))), (hm, .inr (1, [.ref rm, .ref fm, .ref sm, .int (nI cn), .int 0])), (rm, .inl (kI, 4000, .inl R)), (fm, .inl (kI, 4000, .inl (upd F e1.toNatClampNeg e2))), (sm, .inl (kI, 4000, .inl (upd S e1.toNatClampNeg e3)))]) := hD
    refine lv_istore (lv' := [(6, .int (F e1.toNatClampNeg)), (5, .int 0), (4, .int (nI (5 * i))), (3, .ref o), (2, .ref hm), (1, .ref h), (0, .ref b)]) hx hb dL_law_303 hl (by decide) rfl (fun ls hl => ?_)
    refine lv_aload_n hx hb dL_law_305 rfl (lv_at hl 4 rfl) ?_
    refine r_i (rm := ({ frames := 0, cells := 0, slots := 0, locals := 0 } : Room)) (As := []) (rest := []) (j_tn l D ad kI kJ (h, .inr (0, [.ref r1, .ref f1, .ref s1, .int (nI cn)])) (r1, .inl (kI, 4000, .inl R)) (f1, .inl (kI, 4000, .inl (upd F e1.toNatClampNeg e2))) (s1, .inl (kI, 4000, .inl (upd S e1.toNatClampNeg e3))) (o, .inl (kJ, 1, .inr (.inl (vp_updL g 0 ((F e1.toNatClampNeg).toInt64))))) hm rm fm sm R (upd F e1.toNatClampNeg e2) (upd S e1.toNatClampNeg e3) cn 0) SC (cwV 0 hts gL2_Z_thrown rfl rfl rfl (by decide +kernel) ⟨Nat.le_of_ble_eq_true rfl, Nat.le_of_ble_eq_true rfl⟩) hP hK hD hS hA hX 5 rfl rfl rfl hl.1 rfl (Nat.le_of_ble_eq_true rfl) dL_law_306 ⟨by show ((cells + 1) + 1) + 0 ≤ 1047; omega, by show ((slots + 6) + 6) + 0 ≤ 32286; omega⟩ (fun H locs hP hD hS => ?_)
    have hP : va_P D vwD ([(h, .inr (0, [.ref r1, .ref f1, .ref s1, .int (nI cn)])), (r1, .inl (kI, 4000, .inl R)), (f1, .inl (kI, 4000, .inl (upd F e1.toNatClampNeg e2))), (s1, .inl (kI, 4000, .inl (upd S e1.toNatClampNeg e3))), (o, .inl (kJ, 1, .inr (.inl (vp_updL g 0 ((F e1.toNatClampNeg).toInt64))))), (hm, .inr (1, [.ref rm, .ref fm, .ref sm, .int (nI cn), .int 0])), (rm, .inl (kI, 4000, .inl R)), (fm, .inl (kI, 4000, .inl (upd F e1.toNatClampNeg e2))), (sm, .inl (kI, 4000, .inl (upd S e1.toNatClampNeg e3)))]) H := hP
    have hD : va_D A ([(h, .inr (0, [.ref r1, .ref f1, .ref s1, .int (nI cn)])), (r1, .inl (kI, 4000, .inl R)), (f1, .inl (kI, 4000, .inl (upd F e1.toNatClampNeg e2))), (s1, .inl (kI, 4000, .inl (upd S e1.toNatClampNeg e3))), (o, .inl (kJ, 1, .inr (.inl (vp_updL g 0 ((F e1.toNatClampNeg).toInt64))))), (hm, .inr (1, [.ref rm, .ref fm, .ref sm, .int (nI cn), .int 0])), (rm, .inl (kI, 4000, .inl R)), (fm, .inl (kI, 4000, .inl (upd F e1.toNatClampNeg e2))), (sm, .inl (kI, 4000, .inl (upd S e1.toNatClampNeg e3)))]) := hD
    refine lv_iload hx hb dL_law_309 (lv_at hl 1 rfl) ?_
    refine lv_icmp_eq (tgt := 316) hx hb dL_law_311 (by decide) (fun _ => ?_) (fun h9 => absurd (rfl) h9)
    refine lv_iload hx hb dL_law_316 (lv_at hl 1 rfl) ?_
    refine lv_if_ne (tgt := 333) hx hb dL_law_318 (by decide) (fun h9 => absurd h9 (fun q => q rfl)) (fun _ => ?_)
    refine lv_aload_n hx hb dL_law_321 rfl (lv_at hl 3 rfl) ?_
    refine lv_iconst (v := 0) hx hb dL_law_322 (by decide) ?_
    refine va_lald hx hb hK hP 4 1 rfl rfl (vp_in_nI (n := 0) (N := 1) (by decide) (by decide)) dL_law_323 ?_
    refine q_topl ((F e1.toNatClampNeg).toInt64) (by rw [sb_cl0, pk_uLs]) ?_
    refine lv_iload hx hb dL_law_324 (lv_at hl 0 rfl) ?_
    refine lv_i2l hx hb dL_law_326 rfl ?_
    refine W.lcmp hx hb dL_law_327 ?_
    refine q_top 0 ((lg_cmp_eq _ _).mpr rfl) ?_
    refine lv_if_eq (tgt := 333) hx hb dL_law_328 (by decide) (fun _ => ?_) (fun h9 => absurd (rfl) h9)
    refine lv_goto (tgt := 585) hx hb dL_law_333 (by decide) ?_
    refine W.widen (k := cells + 2) (n := slots + 12) (by omega) (by omega) ?_
    exact kk R (upd F e1.toNatClampNeg e2) (upd S e1.toNatClampNeg e3) cn (vp_updL g 0 ((F e1.toNatClampNeg).toInt64)) 0 H locs ls (hR) hP hD hS (lv_sub hl [2, 3, 4, 5, 6] rfl)
  · refine r_swi (rm := ({ frames := 9, cells := 1, slots := 6, locals := 200 } : Room)) (As := [.ref h, .int e1, .int e2, .int e3, .ref o]) (rest := []) (w_weigh_bad l D ad kI kJ [(hm, .inr (1, [.ref rm, .ref fm, .ref sm, .int (nI cn), .int th])), (rm, .inl (kI, 4000, .inl R)), (fm, .inl (kI, 4000, .inl F)), (sm, .inl (kI, 4000, .inl S))] h r1 f1 s1 o R F S cn g e1 e2 e3 hl9 hR hk) SC (vx_cwSW 5 hts (zg_law gL_law_L_weigh) rfl rfl rfl (by decide +kernel) ⟨Nat.le_of_ble_eq_true rfl, Nat.le_of_ble_eq_true rfl⟩) hP hK hD hS hA hX rfl hl.1 rfl (Nat.le_of_ble_eq_true rfl) dL_law_276 ⟨by show cells + 1 ≤ 1047; omega, by show slots + 6 ≤ 32286; omega⟩ (fun H locs hP hD hS => ?_)
    have hP : va_P D vwD ([(h, .inr (0, [.ref r1, .ref f1, .ref s1, .int (nI cn)])), (r1, .inl (kI, 4000, .inl R)), (f1, .inl (kI, 4000, .inl F)), (s1, .inl (kI, 4000, .inl S)), (o, .inl (kJ, 1, .inr (.inl g))), (hm, .inr (1, [.ref rm, .ref fm, .ref sm, .int (nI cn), .int th])), (rm, .inl (kI, 4000, .inl R)), (fm, .inl (kI, 4000, .inl F)), (sm, .inl (kI, 4000, .inl S))]) H := hP
    have hD : va_D A ([(h, .inr (0, [.ref r1, .ref f1, .ref s1, .int (nI cn)])), (r1, .inl (kI, 4000, .inl R)), (f1, .inl (kI, 4000, .inl F)), (s1, .inl (kI, 4000, .inl S)), (o, .inl (kJ, 1, .inr (.inl g))), (hm, .inr (1, [.ref rm, .ref fm, .ref sm, .int (nI cn), .int th])), (rm, .inl (kI, 4000, .inl R)), (fm, .inl (kI, 4000, .inl F)), (sm, .inl (kI, 4000, .inl S))]) := hD
    refine lv_istore (lv' := [(5, .int (nI (rk_kW e1 e2 e3 cn))), (4, .int (nI (5 * i))), (3, .ref o), (2, .ref hm), (1, .ref h), (0, .ref b)]) hx hb dL_law_279 hl (by decide) rfl (fun ls hl => ?_)
    refine lv_aload_n hx hb dL_law_281 rfl (lv_at hl 3 rfl) ?_
    refine lv_aload_n hx hb dL_law_282 rfl (lv_at hl 5 rfl) ?_
    refine lv_iload hx hb dL_law_283 (lv_at hl 1 rfl) ?_
    refine lv_iconst (v := 1) hx hb dL_law_285 (by decide) ?_
    refine lv_iadd hx hb dL_law_286 ?_
    refine q_top (nI ((5 * i) + 1)) (nI_1 _) ?_
    refine va_sld hx hb hXs hbl hbA hS (vp_in_nI (n := ((5 * i) + 1)) (by omega) (by omega)) dL_law_287 ?_
    refine q_top e1 he1 ?_
    refine lv_aload_n hx hb dL_law_288 rfl (lv_at hl 5 rfl) ?_
    refine lv_iload hx hb dL_law_289 (lv_at hl 1 rfl) ?_
    refine lv_iconst (v := 2) hx hb dL_law_291 (by decide) ?_
    refine lv_iadd hx hb dL_law_292 ?_
    refine q_top (nI ((5 * i) + 2)) (nI_add _ 2) ?_
    refine va_sld hx hb hXs hbl hbA hS (vp_in_nI (n := ((5 * i) + 2)) (by omega) (by omega)) dL_law_293 ?_
    refine q_top e2 he2 ?_
    refine lv_aload_n hx hb dL_law_294 rfl (lv_at hl 5 rfl) ?_
    refine lv_iload hx hb dL_law_295 (lv_at hl 1 rfl) ?_
    refine lv_iconst (v := 3) hx hb dL_law_297 (by decide) ?_
    refine lv_iadd hx hb dL_law_298 ?_
    refine q_top (nI ((5 * i) + 3)) (nI_add _ 3) ?_
    refine va_sld hx hb hXs hbl hbA hS (vp_in_nI (n := ((5 * i) + 3)) (by omega) (by omega)) dL_law_299 ?_
    refine q_top e3 he3 ?_
    refine r_vwi (rm := ({ frames := 8, cells := 1, slots := 6, locals := 180 } : Room)) (As := [.int e1, .int e2, .int e3]) (rest := []) (p_weigh_bad l D ad kI kJ (h, .inr (0, [.ref r1, .ref f1, .ref s1, .int (nI cn)])) (r1, .inl (kI, 4000, .inl R)) (f1, .inl (kI, 4000, .inl F)) (s1, .inl (kI, 4000, .inl S)) (o, .inl (kJ, 1, .inr (.inl g))) hm rm fm sm R F S cn th e1 e2 e3 hl9 hR hk) SC (vx_cwVW 3 hts gL2_Z_weigh rfl rfl rfl (by decide +kernel) ⟨Nat.le_of_ble_eq_true rfl, Nat.le_of_ble_eq_true rfl⟩) hP hK hD hS hA hX 5 rfl rfl rfl hl.1 rfl (Nat.le_of_ble_eq_true rfl) dL_law_300 ⟨by show (cells + 1) + 1 ≤ 1047; omega, by show (slots + 6) + 6 ≤ 32286; omega⟩ (fun H locs hP hD hS => ?_)
    have hP : va_P D vwD ([(h, .inr (0, [.ref r1, .ref f1, .ref s1, .int (nI cn)])), (r1, .inl (kI, 4000, .inl R)), (f1, .inl (kI, 4000, .inl F)), (s1, .inl (kI, 4000, .inl S)), (o, .inl (kJ, 1, .inr (.inl g))), (hm, .inr (1, [.ref rm, .ref fm, .ref sm, .int (nI cn), .int (nI (rk_kW e1 e2 e3 cn))])), (rm, .inl (kI, 4000, .inl R)), (fm, .inl (kI, 4000, .inl F)), (sm, .inl (kI, 4000, .inl S))]) H := hP
    have hD : va_D A ([(h, .inr (0, [.ref r1, .ref f1, .ref s1, .int (nI cn)])), (r1, .inl (kI, 4000, .inl R)), (f1, .inl (kI, 4000, .inl F)), (s1, .inl (kI, 4000, .inl S)), (o, .inl (kJ, 1, .inr (.inl g))), (hm, .inr (1, [.ref rm, .ref fm, .ref sm, .int (nI cn), .int (nI (rk_kW e1 e2 e3 cn))])), (rm, .inl (kI, 4000, .inl R)), (fm, .inl (kI, 4000, .inl F)), (sm, .inl (kI, 4000, .inl S))]) := hD
    refine lv_istore (lv' := [(6, .int 0), (5, .int (nI (rk_kW e1 e2 e3 cn))), (4, .int (nI (5 * i))), (3, .ref o), (2, .ref hm), (1, .ref h), (0, .ref b)]) hx hb dL_law_303 hl (by decide) rfl (fun ls hl => ?_)
    refine lv_aload_n hx hb dL_law_305 rfl (lv_at hl 4 rfl) ?_
    refine r_i (rm := ({ frames := 0, cells := 0, slots := 0, locals := 0 } : Room)) (As := []) (rest := []) (j_tn l D ad kI kJ (h, .inr (0, [.ref r1, .ref f1, .ref s1, .int (nI cn)])) (r1, .inl (kI, 4000, .inl R)) (f1, .inl (kI, 4000, .inl F)) (s1, .inl (kI, 4000, .inl S)) (o, .inl (kJ, 1, .inr (.inl g))) hm rm fm sm R F S cn (nI (rk_kW e1 e2 e3 cn))) SC (cwV 0 hts gL2_Z_thrown rfl rfl rfl (by decide +kernel) ⟨Nat.le_of_ble_eq_true rfl, Nat.le_of_ble_eq_true rfl⟩) hP hK hD hS hA hX 5 rfl rfl rfl hl.1 rfl (Nat.le_of_ble_eq_true rfl) dL_law_306 ⟨by show ((cells + 1) + 1) + 0 ≤ 1047; omega, by show ((slots + 6) + 6) + 0 ≤ 32286; omega⟩ (fun H locs hP hD hS => ?_)
    have hP : va_P D vwD ([(h, .inr (0, [.ref r1, .ref f1, .ref s1, .int (nI cn)])), (r1, .inl (kI, 4000, .inl R)), (f1, .inl (kI, 4000, .inl F)), (s1, .inl (kI, 4000, .inl S)), (o, .inl (kJ, 1, .inr (.inl g))), (hm, .inr (1, [.ref rm, .ref fm, .ref sm, .int (nI cn), .int (nI (rk_kW e1 e2 e3 cn))])), (rm, .inl (kI, 4000, .inl R)), (fm, .inl (kI, 4000, .inl F)), (sm, .inl (kI, 4000, .inl S))]) H := hP
    have hD : va_D A ([(h, .inr (0, [.ref r1, .ref f1, .ref s1, .int (nI cn)])), (r1, .inl (kI, 4000, .inl R)), (f1, .inl (kI, 4000, .inl F)), (s1, .inl (kI, 4000, .inl S)), (o, .inl (kJ, 1, .inr (.inl g))), (hm, .inr (1, [.ref rm, .ref fm, .ref sm, .int (nI cn), .int (nI (rk_kW e1 e2 e3 cn))])), (rm, .inl (kI, 4000, .inl R)), (fm, .inl (kI, 4000, .inl F)), (sm, .inl (kI, 4000, .inl S))]) := hD
    refine lv_iload hx hb dL_law_309 (lv_at hl 1 rfl) ?_
    refine lv_icmp_eq (tgt := 316) hx hb dL_law_311 (by decide) (fun _ => ?_) (fun h9 => absurd (rfl) h9)
    refine lv_iload hx hb dL_law_316 (lv_at hl 1 rfl) ?_
    refine lv_if_ne (tgt := 333) hx hb dL_law_318 (by decide) (fun _ => ?_) (fun h9 => absurd h9 (rk_nz2 (rk_kW_r e1 e2 e3 cn) hk))
    refine lv_goto (tgt := 585) hx hb dL_law_333 (by decide) ?_
    refine W.widen (k := cells + 2) (n := slots + 12) (by omega) (by omega) ?_
    exact kk R F S cn g (nI (rk_kW e1 e2 e3 cn)) H locs ls (hR) hP hD hS (lv_sub hl [2, 3, 4, 5, 6] rfl)
set_option maxHeartbeats 4000000 in
set_option maxRecDepth 100000 in
theorem lc_find {p : Program} {l : Launch} {e : Env} {s : State} {m : MethodId} {below : List Frame} {meth : Method} {c : Code} {b L : Nat} {xs : Nat → Int32} {D : va_G} {ad : Nat → Nat} {kI kJ : ClassId} {A : Nat → Prop} {Q : State → Prop} (C0 : lwC p l s m c b L xs D ad kI kJ A) (h r1 f1 s1 o hm rm fm sm : Nat) (R F S : Nat → Int32) (cn : Nat) (g : Nat → Int64) (th : Int32) (hR : rk_ok R cn) (i : Nat) (hi : 5 * i + 5 ≤ L) (hL : L ≤ 2560) {H : Heap} {locs : List Loc} {cells slots : Nat} (hcc : cells + 2 ≤ 1047) (hss : slots + 12 ≤ 32286) (hP : va_P D vwD (wL h r1 f1 s1 o hm rm fm sm kI kJ R F S cn g th) H) (hD : va_D A (wL h r1 f1 s1 o hm rm fm sm kI kJ R F S cn g th)) (hS : va_S A s.heap H locs) {ls : Array Slot} (hl : lv_has ls 7 [(4, .int (nI (5 * i))), (3, .ref o), (2, .ref hm), (1, .ref h), (0, .ref b)])
    (kk : ∀ (R F S : Nat → Int32) (cn : Nat) (g : Nat → Int64) (th : Int32) (H : Heap) (locs : List Loc) (ls : Array Slot), rk_ok R cn → va_P D vwD (wL h r1 f1 s1 o hm rm fm sm kI kJ R F S cn g th) H → va_D A (wL h r1 f1 s1 o hm rm fm sm kI kJ R F S cn g th) → va_S A s.heap H locs → lv_has ls 7 [(4, .int (nI (5 * i))), (3, .ref o), (2, .ref hm), (1, .ref h), (0, .ref b)] → W p l e room_1 s m #[Value.ref b] below meth c H locs (cells + 2) (slots + 12) Q (F0 m 585 ls [])) : W p l e room_1 s m #[Value.ref b] below meth c H locs cells slots Q (F0 m 336 ls []) := by
  obtain ⟨hx, hb, hml, hown, hts, hXs, hbl, hbA, hA, hK, hX, hl9⟩ := id C0
  have SC : CallFix p m c cL_law 7 s #[Value.ref b] wsL2 RL := ⟨hx, hb, hml, hown, hts⟩
  obtain ⟨e1, he1⟩ : ∃ x, xs (nI (5 * i + 1)).toNatClampNeg = x := ⟨_, rfl⟩
  refine lv_aload_n hx hb dL_law_336 rfl (lv_at hl 3 rfl) ?_
  refine lv_aload_n hx hb dL_law_337 rfl (lv_at hl 4 rfl) ?_
  refine lv_iload hx hb dL_law_338 (lv_at hl 0 rfl) ?_
  refine lv_iconst (v := 1) hx hb dL_law_340 (by decide) ?_
  refine lv_iadd hx hb dL_law_341 ?_
  refine q_top (nI ((5 * i) + 1)) (nI_1 _) ?_
  refine va_sld hx hb hXs hbl hbA hS (vp_in_nI (n := ((5 * i) + 1)) (by omega) (by omega)) dL_law_342 ?_
  refine q_top e1 he1 ?_
  refine lv_aload_n hx hb dL_law_343 rfl (lv_at hl 1 rfl) ?_
  by_cases hk : rk_kD R F e1 cn = 0
  · refine r_swi (rm := ({ frames := 9, cells := 1, slots := 6, locals := 200 } : Room)) (As := [.ref h, .int e1, .ref o]) (rest := []) (w_find_ok l D ad kI kJ [(hm, .inr (1, [.ref rm, .ref fm, .ref sm, .int (nI cn), .int th])), (rm, .inl (kI, 4000, .inl R)), (fm, .inl (kI, 4000, .inl F)), (sm, .inl (kI, 4000, .inl S))] h r1 f1 s1 o R F S cn g e1 hl9 hR hk) SC (vx_cwSW 3 hts (zg_law gL_law_L_find) rfl rfl rfl (by decide +kernel) ⟨Nat.le_of_ble_eq_true rfl, Nat.le_of_ble_eq_true rfl⟩) hP hK hD hS hA hX rfl hl.1 rfl (Nat.le_of_ble_eq_true rfl) dL_law_344 ⟨by show cells + 1 ≤ 1047; omega, by show slots + 6 ≤ 32286; omega⟩ (fun H locs hP hD hS => ?_)
    have hP : va_P D vwD ([(h, .inr (0, [.ref r1, .ref f1, .ref s1, .int (nI cn)])), (r1, .inl (kI, 4000, .inl R)), (f1, .inl (kI, 4000, .inl F)), (s1, .inl (kI, 4000, .inl S)), (o, .inl (kJ, 1, .inr (.inl (vp_updL g 0 ((R (rk_fd R F e1 cn)).toInt64))))), (hm, .inr (1, [.ref rm, .ref fm, .ref sm, .int (nI cn), .int th])), (rm, .inl (kI, 4000, .inl R)), (fm, .inl (kI, 4000, .inl F)), (sm, .inl (kI, 4000, .inl S))]) H := hP
    have hD : va_D A ([(h, .inr (0, [.ref r1, .ref f1, .ref s1, .int (nI cn)])), (r1, .inl (kI, 4000, .inl R)), (f1, .inl (kI, 4000, .inl F)), (s1, .inl (kI, 4000, .inl S)), (o, .inl (kJ, 1, .inr (.inl (vp_updL g 0 ((R (rk_fd R F e1 cn)).toInt64))))), (hm, .inr (1, [.ref rm, .ref fm, .ref sm, .int (nI cn), .int th])), (rm, .inl (kI, 4000, .inl R)), (fm, .inl (kI, 4000, .inl F)), (sm, .inl (kI, 4000, .inl S))]) := hD
    refine lv_istore (lv' := [(5, .int 0), (4, .int (nI (5 * i))), (3, .ref o), (2, .ref hm), (1, .ref h), (0, .ref b)]) hx hb dL_law_347 hl (by decide) rfl (fun ls hl => ?_)
    refine lv_aload_n hx hb dL_law_349 rfl (lv_at hl 3 rfl) ?_
    refine lv_aload_n hx hb dL_law_350 rfl (lv_at hl 5 rfl) ?_
    refine lv_iload hx hb dL_law_351 (lv_at hl 1 rfl) ?_
    refine lv_iconst (v := 1) hx hb dL_law_353 (by decide) ?_
    refine lv_iadd hx hb dL_law_354 ?_
    refine q_top (nI ((5 * i) + 1)) (nI_1 _) ?_
    refine va_sld hx hb hXs hbl hbA hS (vp_in_nI (n := ((5 * i) + 1)) (by omega) (by omega)) dL_law_355 ?_
    refine q_top e1 he1 ?_
    refine r_vwi (rm := ({ frames := 8, cells := 1, slots := 6, locals := 180 } : Room)) (As := [.int e1]) (rest := []) (p_find_ok l D ad kI kJ (h, .inr (0, [.ref r1, .ref f1, .ref s1, .int (nI cn)])) (r1, .inl (kI, 4000, .inl R)) (f1, .inl (kI, 4000, .inl F)) (s1, .inl (kI, 4000, .inl S)) (o, .inl (kJ, 1, .inr (.inl (vp_updL g 0 ((R (rk_fd R F e1 cn)).toInt64))))) hm rm fm sm R F S cn th e1 hl9 hR hk) SC (vx_cwVW 1 hts gL2_Z_find rfl rfl rfl (by decide +kernel) ⟨Nat.le_of_ble_eq_true rfl, Nat.le_of_ble_eq_true rfl⟩) hP hK hD hS hA hX 5 rfl rfl rfl hl.1 rfl (Nat.le_of_ble_eq_true rfl) dL_law_356 ⟨by show (cells + 1) + 1 ≤ 1047; omega, by show (slots + 6) + 6 ≤ 32286; omega⟩ (fun H locs hP hD hS => ?_)
    have hP : va_P D vwD ([(h, .inr (0, [.ref r1, .ref f1, .ref s1, .int (nI cn)])), (r1, .inl (kI, 4000, .inl R)), (f1, .inl (kI, 4000, .inl F)), (s1, .inl (kI, 4000, .inl S)), (o, .inl (kJ, 1, .inr (.inl (vp_updL g 0 ((R (rk_fd R F e1 cn)).toInt64))))), (hm, .inr (1, [.ref rm, .ref fm, .ref sm, .int (nI cn), .int 0])), (rm, .inl (kI, 4000, .inl R)), (fm, .inl (kI, 4000, .inl F)), (sm, .inl (kI, 4000, .inl S))]) H := hP
    have hD : va_D A ([(h, .inr (0, [.ref r1, .ref f1, .ref s1, .int (nI cn)])), (r1, .inl (kI, 4000, .inl R)), (f1, .inl (kI, 4000, .inl F)), (s1, .inl (kI, 4000, .inl S)), (o, .inl (kJ, 1, .inr (.inl (vp_updL g 0 ((R (rk_fd R F e1 cn)).toInt64))))), (hm, .inr (1, [.ref rm, .ref fm, .ref sm, .int (nI cn), .int 0])), (rm, .inl (kI, 4000, .inl R)), (fm, .inl (kI, 4000, .inl F)), (sm, .inl (kI, 4000, .inl S))]) := hD
    refine lv_istore (lv' := [(6, .int (R (rk_fd R F e1 cn))), (5, .int 0), (4, .int (nI (5 * i))), (3, .ref o), (2, .ref hm), (1, .ref h), (0, .ref b)]) hx hb dL_law_359 hl (by decide) rfl (fun ls hl => ?_)
    refine lv_aload_n hx hb dL_law_361 rfl (lv_at hl 4 rfl) ?_
    refine r_i (rm := ({ frames := 0, cells := 0, slots := 0, locals := 0 } : Room)) (As := []) (rest := []) (j_tn l D ad kI kJ (h, .inr (0, [.ref r1, .ref f1, .ref s1, .int (nI cn)])) (r1, .inl (kI, 4000, .inl R)) (f1, .inl (kI, 4000, .inl F)) (s1, .inl (kI, 4000, .inl S)) (o, .inl (kJ, 1, .inr (.inl (vp_updL g 0 ((R (rk_fd R F e1 cn)).toInt64))))) hm rm fm sm R F S cn 0) SC (cwV 0 hts gL2_Z_thrown rfl rfl rfl (by decide +kernel) ⟨Nat.le_of_ble_eq_true rfl, Nat.le_of_ble_eq_true rfl⟩) hP hK hD hS hA hX 5 rfl rfl rfl hl.1 rfl (Nat.le_of_ble_eq_true rfl) dL_law_362 ⟨by show ((cells + 1) + 1) + 0 ≤ 1047; omega, by show ((slots + 6) + 6) + 0 ≤ 32286; omega⟩ (fun H locs hP hD hS => ?_)
    have hP : va_P D vwD ([(h, .inr (0, [.ref r1, .ref f1, .ref s1, .int (nI cn)])), (r1, .inl (kI, 4000, .inl R)), (f1, .inl (kI, 4000, .inl F)), (s1, .inl (kI, 4000, .inl S)), (o, .inl (kJ, 1, .inr (.inl (vp_updL g 0 ((R (rk_fd R F e1 cn)).toInt64))))), (hm, .inr (1, [.ref rm, .ref fm, .ref sm, .int (nI cn), .int 0])), (rm, .inl (kI, 4000, .inl R)), (fm, .inl (kI, 4000, .inl F)), (sm, .inl (kI, 4000, .inl S))]) H := hP
    have hD : va_D A ([(h, .inr (0, [.ref r1, .ref f1, .ref s1, .int (nI cn)])), (r1, .inl (kI, 4000, .inl R)), (f1, .inl (kI, 4000, .inl F)), (s1, .inl (kI, 4000, .inl S)), (o, .inl (kJ, 1, .inr (.inl (vp_updL g 0 ((R (rk_fd R F e1 cn)).toInt64))))), (hm, .inr (1, [.ref rm, .ref fm, .ref sm, .int (nI cn), .int 0])), (rm, .inl (kI, 4000, .inl R)), (fm, .inl (kI, 4000, .inl F)), (sm, .inl (kI, 4000, .inl S))]) := hD
    refine lv_iload hx hb dL_law_365 (lv_at hl 1 rfl) ?_
    refine lv_icmp_eq (tgt := 372) hx hb dL_law_367 (by decide) (fun _ => ?_) (fun h9 => absurd (rfl) h9)
    refine lv_iload hx hb dL_law_372 (lv_at hl 1 rfl) ?_
    refine lv_if_ne (tgt := 389) hx hb dL_law_374 (by decide) (fun h9 => absurd h9 (fun q => q rfl)) (fun _ => ?_)
    refine lv_aload_n hx hb dL_law_377 rfl (lv_at hl 3 rfl) ?_
    refine lv_iconst (v := 0) hx hb dL_law_378 (by decide) ?_
    refine va_lald hx hb hK hP 4 1 rfl rfl (vp_in_nI (n := 0) (N := 1) (by decide) (by decide)) dL_law_379 ?_
    refine q_topl ((R (rk_fd R F e1 cn)).toInt64) (by rw [sb_cl0, pk_uLs]) ?_
    refine lv_iload hx hb dL_law_380 (lv_at hl 0 rfl) ?_
    refine lv_i2l hx hb dL_law_382 rfl ?_
    refine W.lcmp hx hb dL_law_383 ?_
    refine q_top 0 ((lg_cmp_eq _ _).mpr rfl) ?_
    refine lv_if_eq (tgt := 389) hx hb dL_law_384 (by decide) (fun _ => ?_) (fun h9 => absurd (rfl) h9)
    refine lv_goto (tgt := 585) hx hb dL_law_389 (by decide) ?_
    refine W.widen (k := cells + 2) (n := slots + 12) (by omega) (by omega) ?_
    exact kk R F S cn (vp_updL g 0 ((R (rk_fd R F e1 cn)).toInt64)) 0 H locs ls (hR) hP hD hS (lv_sub hl [2, 3, 4, 5, 6] rfl)
  · refine r_swi (rm := ({ frames := 9, cells := 1, slots := 6, locals := 200 } : Room)) (As := [.ref h, .int e1, .ref o]) (rest := []) (w_find_bad l D ad kI kJ [(hm, .inr (1, [.ref rm, .ref fm, .ref sm, .int (nI cn), .int th])), (rm, .inl (kI, 4000, .inl R)), (fm, .inl (kI, 4000, .inl F)), (sm, .inl (kI, 4000, .inl S))] h r1 f1 s1 o R F S cn g e1 hl9 hR hk) SC (vx_cwSW 3 hts (zg_law gL_law_L_find) rfl rfl rfl (by decide +kernel) ⟨Nat.le_of_ble_eq_true rfl, Nat.le_of_ble_eq_true rfl⟩) hP hK hD hS hA hX rfl hl.1 rfl (Nat.le_of_ble_eq_true rfl) dL_law_344 ⟨by show cells + 1 ≤ 1047; omega, by show slots + 6 ≤ 32286; omega⟩ (fun H locs hP hD hS => ?_)
    have hP : va_P D vwD ([(h, .inr (0, [.ref r1, .ref f1, .ref s1, .int (nI cn)])), (r1, .inl (kI, 4000, .inl R)), (f1, .inl (kI, 4000, .inl F)), (s1, .inl (kI, 4000, .inl S)), (o, .inl (kJ, 1, .inr (.inl g))), (hm, .inr (1, [.ref rm, .ref fm, .ref sm, .int (nI cn), .int th])), (rm, .inl (kI, 4000, .inl R)), (fm, .inl (kI, 4000, .inl F)), (sm, .inl (kI, 4000, .inl S))]) H := hP
    have hD : va_D A ([(h, .inr (0, [.ref r1, .ref f1, .ref s1, .int (nI cn)])), (r1, .inl (kI, 4000, .inl R)), (f1, .inl (kI, 4000, .inl F)), (s1, .inl (kI, 4000, .inl S)), (o, .inl (kJ, 1, .inr (.inl g))), (hm, .inr (1, [.ref rm, .ref fm, .ref sm, .int (nI cn), .int th])), (rm, .inl (kI, 4000, .inl R)), (fm, .inl (kI, 4000, .inl F)), (sm, .inl (kI, 4000, .inl S))]) := hD
    refine lv_istore (lv' := [(5, .int 1), (4, .int (nI (5 * i))), (3, .ref o), (2, .ref hm), (1, .ref h), (0, .ref b)]) hx hb dL_law_347 hl (by decide) rfl (fun ls hl => ?_)
    refine lv_aload_n hx hb dL_law_349 rfl (lv_at hl 3 rfl) ?_
    refine lv_aload_n hx hb dL_law_350 rfl (lv_at hl 5 rfl) ?_
    refine lv_iload hx hb dL_law_351 (lv_at hl 1 rfl) ?_
    refine lv_iconst (v := 1) hx hb dL_law_353 (by decide) ?_
    refine lv_iadd hx hb dL_law_354 ?_
    refine q_top (nI ((5 * i) + 1)) (nI_1 _) ?_
    refine va_sld hx hb hXs hbl hbA hS (vp_in_nI (n := ((5 * i) + 1)) (by omega) (by omega)) dL_law_355 ?_
    refine q_top e1 he1 ?_
    refine r_vwi (rm := ({ frames := 8, cells := 1, slots := 6, locals := 180 } : Room)) (As := [.int e1]) (rest := []) (p_find_bad l D ad kI kJ (h, .inr (0, [.ref r1, .ref f1, .ref s1, .int (nI cn)])) (r1, .inl (kI, 4000, .inl R)) (f1, .inl (kI, 4000, .inl F)) (s1, .inl (kI, 4000, .inl S)) (o, .inl (kJ, 1, .inr (.inl g))) hm rm fm sm R F S cn th e1 hl9 hR hk) SC (vx_cwVW 1 hts gL2_Z_find rfl rfl rfl (by decide +kernel) ⟨Nat.le_of_ble_eq_true rfl, Nat.le_of_ble_eq_true rfl⟩) hP hK hD hS hA hX 5 rfl rfl rfl hl.1 rfl (Nat.le_of_ble_eq_true rfl) dL_law_356 ⟨by show (cells + 1) + 1 ≤ 1047; omega, by show (slots + 6) + 6 ≤ 32286; omega⟩ (fun H locs hP hD hS => ?_)
    have hP : va_P D vwD ([(h, .inr (0, [.ref r1, .ref f1, .ref s1, .int (nI cn)])), (r1, .inl (kI, 4000, .inl R)), (f1, .inl (kI, 4000, .inl F)), (s1, .inl (kI, 4000, .inl S)), (o, .inl (kJ, 1, .inr (.inl g))), (hm, .inr (1, [.ref rm, .ref fm, .ref sm, .int (nI cn), .int (1)])), (rm, .inl (kI, 4000, .inl R)), (fm, .inl (kI, 4000, .inl F)), (sm, .inl (kI, 4000, .inl S))]) H := hP
    have hD : va_D A ([(h, .inr (0, [.ref r1, .ref f1, .ref s1, .int (nI cn)])), (r1, .inl (kI, 4000, .inl R)), (f1, .inl (kI, 4000, .inl F)), (s1, .inl (kI, 4000, .inl S)), (o, .inl (kJ, 1, .inr (.inl g))), (hm, .inr (1, [.ref rm, .ref fm, .ref sm, .int (nI cn), .int (1)])), (rm, .inl (kI, 4000, .inl R)), (fm, .inl (kI, 4000, .inl F)), (sm, .inl (kI, 4000, .inl S))]) := hD
    refine lv_istore (lv' := [(6, .int 0), (5, .int 1), (4, .int (nI (5 * i))), (3, .ref o), (2, .ref hm), (1, .ref h), (0, .ref b)]) hx hb dL_law_359 hl (by decide) rfl (fun ls hl => ?_)
    refine lv_aload_n hx hb dL_law_361 rfl (lv_at hl 4 rfl) ?_
    refine r_i (rm := ({ frames := 0, cells := 0, slots := 0, locals := 0 } : Room)) (As := []) (rest := []) (j_tn l D ad kI kJ (h, .inr (0, [.ref r1, .ref f1, .ref s1, .int (nI cn)])) (r1, .inl (kI, 4000, .inl R)) (f1, .inl (kI, 4000, .inl F)) (s1, .inl (kI, 4000, .inl S)) (o, .inl (kJ, 1, .inr (.inl g))) hm rm fm sm R F S cn (1)) SC (cwV 0 hts gL2_Z_thrown rfl rfl rfl (by decide +kernel) ⟨Nat.le_of_ble_eq_true rfl, Nat.le_of_ble_eq_true rfl⟩) hP hK hD hS hA hX 5 rfl rfl rfl hl.1 rfl (Nat.le_of_ble_eq_true rfl) dL_law_362 ⟨by show ((cells + 1) + 1) + 0 ≤ 1047; omega, by show ((slots + 6) + 6) + 0 ≤ 32286; omega⟩ (fun H locs hP hD hS => ?_)
    have hP : va_P D vwD ([(h, .inr (0, [.ref r1, .ref f1, .ref s1, .int (nI cn)])), (r1, .inl (kI, 4000, .inl R)), (f1, .inl (kI, 4000, .inl F)), (s1, .inl (kI, 4000, .inl S)), (o, .inl (kJ, 1, .inr (.inl g))), (hm, .inr (1, [.ref rm, .ref fm, .ref sm, .int (nI cn), .int (1)])), (rm, .inl (kI, 4000, .inl R)), (fm, .inl (kI, 4000, .inl F)), (sm, .inl (kI, 4000, .inl S))]) H := hP
    have hD : va_D A ([(h, .inr (0, [.ref r1, .ref f1, .ref s1, .int (nI cn)])), (r1, .inl (kI, 4000, .inl R)), (f1, .inl (kI, 4000, .inl F)), (s1, .inl (kI, 4000, .inl S)), (o, .inl (kJ, 1, .inr (.inl g))), (hm, .inr (1, [.ref rm, .ref fm, .ref sm, .int (nI cn), .int (1)])), (rm, .inl (kI, 4000, .inl R)), (fm, .inl (kI, 4000, .inl F)), (sm, .inl (kI, 4000, .inl S))]) := hD
    refine lv_iload hx hb dL_law_365 (lv_at hl 1 rfl) ?_
    refine lv_icmp_eq (tgt := 372) hx hb dL_law_367 (by decide) (fun _ => ?_) (fun h9 => absurd (rfl) h9)
    refine lv_iload hx hb dL_law_372 (lv_at hl 1 rfl) ?_
    refine lv_if_ne (tgt := 389) hx hb dL_law_374 (by decide) (fun _ => ?_) (fun h9 => absurd h9 ((by decide : ¬ (1 : Int32) = 0)))
    refine lv_goto (tgt := 585) hx hb dL_law_389 (by decide) ?_
    refine W.widen (k := cells + 2) (n := slots + 12) (by omega) (by omega) ?_
    exact kk R F S cn g (1) H locs ls (hR) hP hD hS (lv_sub hl [2, 3, 4, 5, 6] rfl)
set_option maxHeartbeats 4000000 in
set_option maxRecDepth 100000 in
theorem lc_sum {p : Program} {l : Launch} {e : Env} {s : State} {m : MethodId} {below : List Frame} {meth : Method} {c : Code} {b L : Nat} {xs : Nat → Int32} {D : va_G} {ad : Nat → Nat} {kI kJ : ClassId} {A : Nat → Prop} {Q : State → Prop} (C0 : lwC p l s m c b L xs D ad kI kJ A) (h r1 f1 s1 o hm rm fm sm : Nat) (R F S : Nat → Int32) (cn : Nat) (g : Nat → Int64) (th : Int32) (hR : rk_ok R cn) (i : Nat) (hi : 5 * i + 5 ≤ L) (hL : L ≤ 2560) {H : Heap} {locs : List Loc} {cells slots : Nat} (hcc : cells + 2 ≤ 1047) (hss : slots + 12 ≤ 32286) (hP : va_P D vwD (wL h r1 f1 s1 o hm rm fm sm kI kJ R F S cn g th) H) (hD : va_D A (wL h r1 f1 s1 o hm rm fm sm kI kJ R F S cn g th)) (hS : va_S A s.heap H locs) {ls : Array Slot} (hl : lv_has ls 7 [(4, .int (nI (5 * i))), (3, .ref o), (2, .ref hm), (1, .ref h), (0, .ref b)])
    (kk : ∀ (R F S : Nat → Int32) (cn : Nat) (g : Nat → Int64) (th : Int32) (H : Heap) (locs : List Loc) (ls : Array Slot), rk_ok R cn → va_P D vwD (wL h r1 f1 s1 o hm rm fm sm kI kJ R F S cn g th) H → va_D A (wL h r1 f1 s1 o hm rm fm sm kI kJ R F S cn g th) → va_S A s.heap H locs → lv_has ls 7 [(4, .int (nI (5 * i))), (3, .ref o), (2, .ref hm), (1, .ref h), (0, .ref b)] → W p l e room_1 s m #[Value.ref b] below meth c H locs (cells + 2) (slots + 12) Q (F0 m 585 ls [])) : W p l e room_1 s m #[Value.ref b] below meth c H locs cells slots Q (F0 m 392 ls []) := by
  obtain ⟨hx, hb, hml, hown, hts, hXs, hbl, hbA, hA, hK, hX, hl9⟩ := id C0
  have SC : CallFix p m c cL_law 7 s #[Value.ref b] wsL2 RL := ⟨hx, hb, hml, hown, hts⟩
  obtain ⟨e1, he1⟩ : ∃ x, xs (nI (5 * i + 1)).toNatClampNeg = x := ⟨_, rfl⟩
  obtain ⟨e2, he2⟩ : ∃ x, xs (nI (5 * i + 2)).toNatClampNeg = x := ⟨_, rfl⟩
  refine lv_aload_n hx hb dL_law_392 rfl (lv_at hl 3 rfl) ?_
  refine lv_aload_n hx hb dL_law_393 rfl (lv_at hl 4 rfl) ?_
  refine lv_iload hx hb dL_law_394 (lv_at hl 0 rfl) ?_
  refine lv_iconst (v := 1) hx hb dL_law_396 (by decide) ?_
  refine lv_iadd hx hb dL_law_397 ?_
  refine q_top (nI ((5 * i) + 1)) (nI_1 _) ?_
  refine va_sld hx hb hXs hbl hbA hS (vp_in_nI (n := ((5 * i) + 1)) (by omega) (by omega)) dL_law_398 ?_
  refine q_top e1 he1 ?_
  refine lv_aload_n hx hb dL_law_399 rfl (lv_at hl 4 rfl) ?_
  refine lv_iload hx hb dL_law_400 (lv_at hl 0 rfl) ?_
  refine lv_iconst (v := 2) hx hb dL_law_402 (by decide) ?_
  refine lv_iadd hx hb dL_law_403 ?_
  refine q_top (nI ((5 * i) + 2)) (nI_add _ 2) ?_
  refine va_sld hx hb hXs hbl hbA hS (vp_in_nI (n := ((5 * i) + 2)) (by omega) (by omega)) dL_law_404 ?_
  refine q_top e2 he2 ?_
  refine lv_aload_n hx hb dL_law_405 rfl (lv_at hl 1 rfl) ?_
  by_cases hk : rk_kS e1 e2 cn = 0
  · refine r_swi (rm := ({ frames := 9, cells := 1, slots := 6, locals := 200 } : Room)) (As := [.ref h, .int e1, .int e2, .ref o]) (rest := []) (w_sum_ok l D ad kI kJ [(hm, .inr (1, [.ref rm, .ref fm, .ref sm, .int (nI cn), .int th])), (rm, .inl (kI, 4000, .inl R)), (fm, .inl (kI, 4000, .inl F)), (sm, .inl (kI, 4000, .inl S))] h r1 f1 s1 o R F S cn g e1 e2 hl9 hR hk) SC (vx_cwSW 4 hts (zg_law gL_law_L_sum) rfl rfl rfl (by decide +kernel) ⟨Nat.le_of_ble_eq_true rfl, Nat.le_of_ble_eq_true rfl⟩) hP hK hD hS hA hX rfl hl.1 rfl (Nat.le_of_ble_eq_true rfl) dL_law_406 ⟨by show cells + 1 ≤ 1047; omega, by show slots + 6 ≤ 32286; omega⟩ (fun H locs hP hD hS => ?_)
    have hP : va_P D vwD ([(h, .inr (0, [.ref r1, .ref f1, .ref s1, .int (nI cn)])), (r1, .inl (kI, 4000, .inl R)), (f1, .inl (kI, 4000, .inl F)), (s1, .inl (kI, 4000, .inl S)), (o, .inl (kJ, 1, .inr (.inl (vp_updL g 0 ((rk_sm R (if e2 = 0 then F else S) (if e1 = -1 then cn else rk_pl R e1 cn)).toInt64))))), (hm, .inr (1, [.ref rm, .ref fm, .ref sm, .int (nI cn), .int th])), (rm, .inl (kI, 4000, .inl R)), (fm, .inl (kI, 4000, .inl F)), (sm, .inl (kI, 4000, .inl S))]) H := hP
    have hD : va_D A ([(h, .inr (0, [.ref r1, .ref f1, .ref s1, .int (nI cn)])), (r1, .inl (kI, 4000, .inl R)), (f1, .inl (kI, 4000, .inl F)), (s1, .inl (kI, 4000, .inl S)), (o, .inl (kJ, 1, .inr (.inl (vp_updL g 0 ((rk_sm R (if e2 = 0 then F else S) (if e1 = -1 then cn else rk_pl R e1 cn)).toInt64))))), (hm, .inr (1, [.ref rm, .ref fm, .ref sm, .int (nI cn), .int th])), (rm, .inl (kI, 4000, .inl R)), (fm, .inl (kI, 4000, .inl F)), (sm, .inl (kI, 4000, .inl S))]) := hD
    refine lv_istore (lv' := [(5, .int 0), (4, .int (nI (5 * i))), (3, .ref o), (2, .ref hm), (1, .ref h), (0, .ref b)]) hx hb dL_law_409 hl (by decide) rfl (fun ls hl => ?_)
    refine lv_aload_n hx hb dL_law_411 rfl (lv_at hl 3 rfl) ?_
    refine lv_aload_n hx hb dL_law_412 rfl (lv_at hl 5 rfl) ?_
    refine lv_iload hx hb dL_law_413 (lv_at hl 1 rfl) ?_
    refine lv_iconst (v := 1) hx hb dL_law_415 (by decide) ?_
    refine lv_iadd hx hb dL_law_416 ?_
    refine q_top (nI ((5 * i) + 1)) (nI_1 _) ?_
    refine va_sld hx hb hXs hbl hbA hS (vp_in_nI (n := ((5 * i) + 1)) (by omega) (by omega)) dL_law_417 ?_
    refine q_top e1 he1 ?_
    refine lv_aload_n hx hb dL_law_418 rfl (lv_at hl 5 rfl) ?_
    refine lv_iload hx hb dL_law_419 (lv_at hl 1 rfl) ?_
    refine lv_iconst (v := 2) hx hb dL_law_421 (by decide) ?_
    refine lv_iadd hx hb dL_law_422 ?_
    refine q_top (nI ((5 * i) + 2)) (nI_add _ 2) ?_
    refine va_sld hx hb hXs hbl hbA hS (vp_in_nI (n := ((5 * i) + 2)) (by omega) (by omega)) dL_law_423 ?_
    refine q_top e2 he2 ?_
    refine r_vwi (rm := ({ frames := 8, cells := 1, slots := 6, locals := 180 } : Room)) (As := [.int e1, .int e2]) (rest := []) (p_sum_ok l D ad kI kJ (h, .inr (0, [.ref r1, .ref f1, .ref s1, .int (nI cn)])) (r1, .inl (kI, 4000, .inl R)) (f1, .inl (kI, 4000, .inl F)) (s1, .inl (kI, 4000, .inl S)) (o, .inl (kJ, 1, .inr (.inl (vp_updL g 0 ((rk_sm R (if e2 = 0 then F else S) (if e1 = -1 then cn else rk_pl R e1 cn)).toInt64))))) hm rm fm sm R F S cn th e1 e2 hl9 hR hk) SC (vx_cwVW 2 hts gL2_Z_sum rfl rfl rfl (by decide +kernel) ⟨Nat.le_of_ble_eq_true rfl, Nat.le_of_ble_eq_true rfl⟩) hP hK hD hS hA hX 5 rfl rfl rfl hl.1 rfl (Nat.le_of_ble_eq_true rfl) dL_law_424 ⟨by show (cells + 1) + 1 ≤ 1047; omega, by show (slots + 6) + 6 ≤ 32286; omega⟩ (fun H locs hP hD hS => ?_)
    have hP : va_P D vwD ([(h, .inr (0, [.ref r1, .ref f1, .ref s1, .int (nI cn)])), (r1, .inl (kI, 4000, .inl R)), (f1, .inl (kI, 4000, .inl F)), (s1, .inl (kI, 4000, .inl S)), (o, .inl (kJ, 1, .inr (.inl (vp_updL g 0 ((rk_sm R (if e2 = 0 then F else S) (if e1 = -1 then cn else rk_pl R e1 cn)).toInt64))))), (hm, .inr (1, [.ref rm, .ref fm, .ref sm, .int (nI cn), .int 0])), (rm, .inl (kI, 4000, .inl R)), (fm, .inl (kI, 4000, .inl F)), (sm, .inl (kI, 4000, .inl S))]) H := hP
    have hD : va_D A ([(h, .inr (0, [.ref r1, .ref f1, .ref s1, .int (nI cn)])), (r1, .inl (kI, 4000, .inl R)), (f1, .inl (kI, 4000, .inl F)), (s1, .inl (kI, 4000, .inl S)), (o, .inl (kJ, 1, .inr (.inl (vp_updL g 0 ((rk_sm R (if e2 = 0 then F else S) (if e1 = -1 then cn else rk_pl R e1 cn)).toInt64))))), (hm, .inr (1, [.ref rm, .ref fm, .ref sm, .int (nI cn), .int 0])), (rm, .inl (kI, 4000, .inl R)), (fm, .inl (kI, 4000, .inl F)), (sm, .inl (kI, 4000, .inl S))]) := hD
    refine lv_istore (lv' := [(6, .int (rk_sm R (if e2 = 0 then F else S) (if e1 = -1 then cn else rk_pl R e1 cn))), (5, .int 0), (4, .int (nI (5 * i))), (3, .ref o), (2, .ref hm), (1, .ref h), (0, .ref b)]) hx hb dL_law_427 hl (by decide) rfl (fun ls hl => ?_)
    refine lv_aload_n hx hb dL_law_429 rfl (lv_at hl 4 rfl) ?_
    refine r_i (rm := ({ frames := 0, cells := 0, slots := 0, locals := 0 } : Room)) (As := []) (rest := []) (j_tn l D ad kI kJ (h, .inr (0, [.ref r1, .ref f1, .ref s1, .int (nI cn)])) (r1, .inl (kI, 4000, .inl R)) (f1, .inl (kI, 4000, .inl F)) (s1, .inl (kI, 4000, .inl S)) (o, .inl (kJ, 1, .inr (.inl (vp_updL g 0 ((rk_sm R (if e2 = 0 then F else S) (if e1 = -1 then cn else rk_pl R e1 cn)).toInt64))))) hm rm fm sm R F S cn 0) SC (cwV 0 hts gL2_Z_thrown rfl rfl rfl (by decide +kernel) ⟨Nat.le_of_ble_eq_true rfl, Nat.le_of_ble_eq_true rfl⟩) hP hK hD hS hA hX 5 rfl rfl rfl hl.1 rfl (Nat.le_of_ble_eq_true rfl) dL_law_430 ⟨by show ((cells + 1) + 1) + 0 ≤ 1047; omega, by show ((slots + 6) + 6) + 0 ≤ 32286; omega⟩ (fun H locs hP hD hS => ?_)
    have hP : va_P D vwD ([(h, .inr (0, [.ref r1, .ref f1, .ref s1, .int (nI cn)])), (r1, .inl (kI, 4000, .inl R)), (f1, .inl (kI, 4000, .inl F)), (s1, .inl (kI, 4000, .inl S)), (o, .inl (kJ, 1, .inr (.inl (vp_updL g 0 ((rk_sm R (if e2 = 0 then F else S) (if e1 = -1 then cn else rk_pl R e1 cn)).toInt64))))), (hm, .inr (1, [.ref rm, .ref fm, .ref sm, .int (nI cn), .int 0])), (rm, .inl (kI, 4000, .inl R)), (fm, .inl (kI, 4000, .inl F)), (sm, .inl (kI, 4000, .inl S))]) H := hP
    have hD : va_D A ([(h, .inr (0, [.ref r1, .ref f1, .ref s1, .int (nI cn)])), (r1, .inl (kI, 4000, .inl R)), (f1, .inl (kI, 4000, .inl F)), (s1, .inl (kI, 4000, .inl S)), (o, .inl (kJ, 1, .inr (.inl (vp_updL g 0 ((rk_sm R (if e2 = 0 then F else S) (if e1 = -1 then cn else rk_pl R e1 cn)).toInt64))))), (hm, .inr (1, [.ref rm, .ref fm, .ref sm, .int (nI cn), .int 0])), (rm, .inl (kI, 4000, .inl R)), (fm, .inl (kI, 4000, .inl F)), (sm, .inl (kI, 4000, .inl S))]) := hD
    refine lv_iload hx hb dL_law_433 (lv_at hl 1 rfl) ?_
    refine lv_icmp_eq (tgt := 440) hx hb dL_law_435 (by decide) (fun _ => ?_) (fun h9 => absurd (rfl) h9)
    refine lv_iload hx hb dL_law_440 (lv_at hl 1 rfl) ?_
    refine lv_if_ne (tgt := 457) hx hb dL_law_442 (by decide) (fun h9 => absurd h9 (fun q => q rfl)) (fun _ => ?_)
    refine lv_aload_n hx hb dL_law_445 rfl (lv_at hl 3 rfl) ?_
    refine lv_iconst (v := 0) hx hb dL_law_446 (by decide) ?_
    refine va_lald hx hb hK hP 4 1 rfl rfl (vp_in_nI (n := 0) (N := 1) (by decide) (by decide)) dL_law_447 ?_
    refine q_topl ((rk_sm R (if e2 = 0 then F else S) (if e1 = -1 then cn else rk_pl R e1 cn)).toInt64) (by rw [sb_cl0, pk_uLs]) ?_
    refine lv_iload hx hb dL_law_448 (lv_at hl 0 rfl) ?_
    refine lv_i2l hx hb dL_law_450 rfl ?_
    refine W.lcmp hx hb dL_law_451 ?_
    refine q_top 0 ((lg_cmp_eq _ _).mpr rfl) ?_
    refine lv_if_eq (tgt := 457) hx hb dL_law_452 (by decide) (fun _ => ?_) (fun h9 => absurd (rfl) h9)
    refine lv_goto (tgt := 585) hx hb dL_law_457 (by decide) ?_
    refine W.widen (k := cells + 2) (n := slots + 12) (by omega) (by omega) ?_
    exact kk R F S cn (vp_updL g 0 ((rk_sm R (if e2 = 0 then F else S) (if e1 = -1 then cn else rk_pl R e1 cn)).toInt64)) 0 H locs ls (hR) hP hD hS (lv_sub hl [2, 3, 4, 5, 6] rfl)
  · refine r_swi (rm := ({ frames := 9, cells := 1, slots := 6, locals := 200 } : Room)) (As := [.ref h, .int e1, .int e2, .ref o]) (rest := []) (w_sum_bad l D ad kI kJ [(hm, .inr (1, [.ref rm, .ref fm, .ref sm, .int (nI cn), .int th])), (rm, .inl (kI, 4000, .inl R)), (fm, .inl (kI, 4000, .inl F)), (sm, .inl (kI, 4000, .inl S))] h r1 f1 s1 o R F S cn g e1 e2 hl9 hR hk) SC (vx_cwSW 4 hts (zg_law gL_law_L_sum) rfl rfl rfl (by decide +kernel) ⟨Nat.le_of_ble_eq_true rfl, Nat.le_of_ble_eq_true rfl⟩) hP hK hD hS hA hX rfl hl.1 rfl (Nat.le_of_ble_eq_true rfl) dL_law_406 ⟨by show cells + 1 ≤ 1047; omega, by show slots + 6 ≤ 32286; omega⟩ (fun H locs hP hD hS => ?_)
    have hP : va_P D vwD ([(h, .inr (0, [.ref r1, .ref f1, .ref s1, .int (nI cn)])), (r1, .inl (kI, 4000, .inl R)), (f1, .inl (kI, 4000, .inl F)), (s1, .inl (kI, 4000, .inl S)), (o, .inl (kJ, 1, .inr (.inl g))), (hm, .inr (1, [.ref rm, .ref fm, .ref sm, .int (nI cn), .int th])), (rm, .inl (kI, 4000, .inl R)), (fm, .inl (kI, 4000, .inl F)), (sm, .inl (kI, 4000, .inl S))]) H := hP
    have hD : va_D A ([(h, .inr (0, [.ref r1, .ref f1, .ref s1, .int (nI cn)])), (r1, .inl (kI, 4000, .inl R)), (f1, .inl (kI, 4000, .inl F)), (s1, .inl (kI, 4000, .inl S)), (o, .inl (kJ, 1, .inr (.inl g))), (hm, .inr (1, [.ref rm, .ref fm, .ref sm, .int (nI cn), .int th])), (rm, .inl (kI, 4000, .inl R)), (fm, .inl (kI, 4000, .inl F)), (sm, .inl (kI, 4000, .inl S))]) := hD
    refine lv_istore (lv' := [(5, .int (nI (rk_kS e1 e2 cn))), (4, .int (nI (5 * i))), (3, .ref o), (2, .ref hm), (1, .ref h), (0, .ref b)]) hx hb dL_law_409 hl (by decide) rfl (fun ls hl => ?_)
    refine lv_aload_n hx hb dL_law_411 rfl (lv_at hl 3 rfl) ?_
    refine lv_aload_n hx hb dL_law_412 rfl (lv_at hl 5 rfl) ?_
    refine lv_iload hx hb dL_law_413 (lv_at hl 1 rfl) ?_
    refine lv_iconst (v := 1) hx hb dL_law_415 (by decide) ?_
    refine lv_iadd hx hb dL_law_416 ?_
    refine q_top (nI ((5 * i) + 1)) (nI_1 _) ?_
    refine va_sld hx hb hXs hbl hbA hS (vp_in_nI (n := ((5 * i) + 1)) (by omega) (by omega)) dL_law_417 ?_
    refine q_top e1 he1 ?_
    refine lv_aload_n hx hb dL_law_418 rfl (lv_at hl 5 rfl) ?_
    refine lv_iload hx hb dL_law_419 (lv_at hl 1 rfl) ?_
    refine lv_iconst (v := 2) hx hb dL_law_421 (by decide) ?_
    refine lv_iadd hx hb dL_law_422 ?_
    refine q_top (nI ((5 * i) + 2)) (nI_add _ 2) ?_
    refine va_sld hx hb hXs hbl hbA hS (vp_in_nI (n := ((5 * i) + 2)) (by omega) (by omega)) dL_law_423 ?_
    refine q_top e2 he2 ?_
    refine r_vwi (rm := ({ frames := 8, cells := 1, slots := 6, locals := 180 } : Room)) (As := [.int e1, .int e2]) (rest := []) (p_sum_bad l D ad kI kJ (h, .inr (0, [.ref r1, .ref f1, .ref s1, .int (nI cn)])) (r1, .inl (kI, 4000, .inl R)) (f1, .inl (kI, 4000, .inl F)) (s1, .inl (kI, 4000, .inl S)) (o, .inl (kJ, 1, .inr (.inl g))) hm rm fm sm R F S cn th e1 e2 hl9 hR hk) SC (vx_cwVW 2 hts gL2_Z_sum rfl rfl rfl (by decide +kernel) ⟨Nat.le_of_ble_eq_true rfl, Nat.le_of_ble_eq_true rfl⟩) hP hK hD hS hA hX 5 rfl rfl rfl hl.1 rfl (Nat.le_of_ble_eq_true rfl) dL_law_424 ⟨by show (cells + 1) + 1 ≤ 1047; omega, by show (slots + 6) + 6 ≤ 32286; omega⟩ (fun H locs hP hD hS => ?_)
    have hP : va_P D vwD ([(h, .inr (0, [.ref r1, .ref f1, .ref s1, .int (nI cn)])), (r1, .inl (kI, 4000, .inl R)), (f1, .inl (kI, 4000, .inl F)), (s1, .inl (kI, 4000, .inl S)), (o, .inl (kJ, 1, .inr (.inl g))), (hm, .inr (1, [.ref rm, .ref fm, .ref sm, .int (nI cn), .int (nI (rk_kS e1 e2 cn))])), (rm, .inl (kI, 4000, .inl R)), (fm, .inl (kI, 4000, .inl F)), (sm, .inl (kI, 4000, .inl S))]) H := hP
    have hD : va_D A ([(h, .inr (0, [.ref r1, .ref f1, .ref s1, .int (nI cn)])), (r1, .inl (kI, 4000, .inl R)), (f1, .inl (kI, 4000, .inl F)), (s1, .inl (kI, 4000, .inl S)), (o, .inl (kJ, 1, .inr (.inl g))), (hm, .inr (1, [.ref rm, .ref fm, .ref sm, .int (nI cn), .int (nI (rk_kS e1 e2 cn))])), (rm, .inl (kI, 4000, .inl R)), (fm, .inl (kI, 4000, .inl F)), (sm, .inl (kI, 4000, .inl S))]) := hD
    refine lv_istore (lv' := [(6, .int 0), (5, .int (nI (rk_kS e1 e2 cn))), (4, .int (nI (5 * i))), (3, .ref o), (2, .ref hm), (1, .ref h), (0, .ref b)]) hx hb dL_law_427 hl (by decide) rfl (fun ls hl => ?_)
    refine lv_aload_n hx hb dL_law_429 rfl (lv_at hl 4 rfl) ?_
    refine r_i (rm := ({ frames := 0, cells := 0, slots := 0, locals := 0 } : Room)) (As := []) (rest := []) (j_tn l D ad kI kJ (h, .inr (0, [.ref r1, .ref f1, .ref s1, .int (nI cn)])) (r1, .inl (kI, 4000, .inl R)) (f1, .inl (kI, 4000, .inl F)) (s1, .inl (kI, 4000, .inl S)) (o, .inl (kJ, 1, .inr (.inl g))) hm rm fm sm R F S cn (nI (rk_kS e1 e2 cn))) SC (cwV 0 hts gL2_Z_thrown rfl rfl rfl (by decide +kernel) ⟨Nat.le_of_ble_eq_true rfl, Nat.le_of_ble_eq_true rfl⟩) hP hK hD hS hA hX 5 rfl rfl rfl hl.1 rfl (Nat.le_of_ble_eq_true rfl) dL_law_430 ⟨by show ((cells + 1) + 1) + 0 ≤ 1047; omega, by show ((slots + 6) + 6) + 0 ≤ 32286; omega⟩ (fun H locs hP hD hS => ?_)
    have hP : va_P D vwD ([(h, .inr (0, [.ref r1, .ref f1, .ref s1, .int (nI cn)])), (r1, .inl (kI, 4000, .inl R)), (f1, .inl (kI, 4000, .inl F)), (s1, .inl (kI, 4000, .inl S)), (o, .inl (kJ, 1, .inr (.inl g))), (hm, .inr (1, [.ref rm, .ref fm, .ref sm, .int (nI cn), .int (nI (rk_kS e1 e2 cn))])), (rm, .inl (kI, 4000, .inl R)), (fm, .inl (kI, 4000, .inl F)), (sm, .inl (kI, 4000, .inl S))]) H := hP
    have hD : va_D A ([(h, .inr (0, [.ref r1, .ref f1, .ref s1, .int (nI cn)])), (r1, .inl (kI, 4000, .inl R)), (f1, .inl (kI, 4000, .inl F)), (s1, .inl (kI, 4000, .inl S)), (o, .inl (kJ, 1, .inr (.inl g))), (hm, .inr (1, [.ref rm, .ref fm, .ref sm, .int (nI cn), .int (nI (rk_kS e1 e2 cn))])), (rm, .inl (kI, 4000, .inl R)), (fm, .inl (kI, 4000, .inl F)), (sm, .inl (kI, 4000, .inl S))]) := hD
    refine lv_iload hx hb dL_law_433 (lv_at hl 1 rfl) ?_
    refine lv_icmp_eq (tgt := 440) hx hb dL_law_435 (by decide) (fun _ => ?_) (fun h9 => absurd (rfl) h9)
    refine lv_iload hx hb dL_law_440 (lv_at hl 1 rfl) ?_
    refine lv_if_ne (tgt := 457) hx hb dL_law_442 (by decide) (fun _ => ?_) (fun h9 => absurd h9 (rk_nz2 (rk_kS_r e1 e2 cn) hk))
    refine lv_goto (tgt := 585) hx hb dL_law_457 (by decide) ?_
    refine W.widen (k := cells + 2) (n := slots + 12) (by omega) (by omega) ?_
    exact kk R F S cn g (nI (rk_kS e1 e2 cn)) H locs ls (hR) hP hD hS (lv_sub hl [2, 3, 4, 5, 6] rfl)
set_option maxHeartbeats 4000000 in
set_option maxRecDepth 100000 in
theorem lc_next {p : Program} {l : Launch} {e : Env} {s : State} {m : MethodId} {below : List Frame} {meth : Method} {c : Code} {b L : Nat} {xs : Nat → Int32} {D : va_G} {ad : Nat → Nat} {kI kJ : ClassId} {A : Nat → Prop} {Q : State → Prop} (C0 : lwC p l s m c b L xs D ad kI kJ A) (h r1 f1 s1 o hm rm fm sm : Nat) (R F S : Nat → Int32) (cn : Nat) (g : Nat → Int64) (th : Int32) (hR : rk_ok R cn) (i : Nat) (hi : 5 * i + 5 ≤ L) (hL : L ≤ 2560) {H : Heap} {locs : List Loc} {cells slots : Nat} (hcc : cells + 2 ≤ 1047) (hss : slots + 12 ≤ 32286) (hP : va_P D vwD (wL h r1 f1 s1 o hm rm fm sm kI kJ R F S cn g th) H) (hD : va_D A (wL h r1 f1 s1 o hm rm fm sm kI kJ R F S cn g th)) (hS : va_S A s.heap H locs) {ls : Array Slot} (hl : lv_has ls 7 [(4, .int (nI (5 * i))), (3, .ref o), (2, .ref hm), (1, .ref h), (0, .ref b)])
    (kk : ∀ (R F S : Nat → Int32) (cn : Nat) (g : Nat → Int64) (th : Int32) (H : Heap) (locs : List Loc) (ls : Array Slot), rk_ok R cn → va_P D vwD (wL h r1 f1 s1 o hm rm fm sm kI kJ R F S cn g th) H → va_D A (wL h r1 f1 s1 o hm rm fm sm kI kJ R F S cn g th) → va_S A s.heap H locs → lv_has ls 7 [(4, .int (nI (5 * i))), (3, .ref o), (2, .ref hm), (1, .ref h), (0, .ref b)] → W p l e room_1 s m #[Value.ref b] below meth c H locs (cells + 2) (slots + 12) Q (F0 m 585 ls [])) : W p l e room_1 s m #[Value.ref b] below meth c H locs cells slots Q (F0 m 460 ls []) := by
  obtain ⟨hx, hb, hml, hown, hts, hXs, hbl, hbA, hA, hK, hX, hl9⟩ := id C0
  have SC : CallFix p m c cL_law 7 s #[Value.ref b] wsL2 RL := ⟨hx, hb, hml, hown, hts⟩
  obtain ⟨e1, he1⟩ : ∃ x, xs (nI (5 * i + 1)).toNatClampNeg = x := ⟨_, rfl⟩
  refine lv_aload_n hx hb dL_law_460 rfl (lv_at hl 3 rfl) ?_
  refine lv_aload_n hx hb dL_law_461 rfl (lv_at hl 4 rfl) ?_
  refine lv_iload hx hb dL_law_462 (lv_at hl 0 rfl) ?_
  refine lv_iconst (v := 1) hx hb dL_law_464 (by decide) ?_
  refine lv_iadd hx hb dL_law_465 ?_
  refine q_top (nI ((5 * i) + 1)) (nI_1 _) ?_
  refine va_sld hx hb hXs hbl hbA hS (vp_in_nI (n := ((5 * i) + 1)) (by omega) (by omega)) dL_law_466 ?_
  refine q_top e1 he1 ?_
  refine lv_aload_n hx hb dL_law_467 rfl (lv_at hl 1 rfl) ?_
  by_cases hk : rk_kN R e1 cn = 0
  · refine r_swi (rm := ({ frames := 9, cells := 1, slots := 6, locals := 200 } : Room)) (As := [.ref h, .int e1, .ref o]) (rest := []) (w_next_ok l D ad kI kJ [(hm, .inr (1, [.ref rm, .ref fm, .ref sm, .int (nI cn), .int th])), (rm, .inl (kI, 4000, .inl R)), (fm, .inl (kI, 4000, .inl F)), (sm, .inl (kI, 4000, .inl S))] h r1 f1 s1 o R F S cn g e1 hl9 hR hk) SC (vx_cwSW 3 hts (zg_law gL_law_L_next) rfl rfl rfl (by decide +kernel) ⟨Nat.le_of_ble_eq_true rfl, Nat.le_of_ble_eq_true rfl⟩) hP hK hD hS hA hX rfl hl.1 rfl (Nat.le_of_ble_eq_true rfl) dL_law_468 ⟨by show cells + 1 ≤ 1047; omega, by show slots + 6 ≤ 32286; omega⟩ (fun H locs hP hD hS => ?_)
    have hP : va_P D vwD ([(h, .inr (0, [.ref r1, .ref f1, .ref s1, .int (nI cn)])), (r1, .inl (kI, 4000, .inl R)), (f1, .inl (kI, 4000, .inl F)), (s1, .inl (kI, 4000, .inl S)), (o, .inl (kJ, 1, .inr (.inl (vp_updL g 0 ((R (rk_pb R e1 cn)).toInt64))))), (hm, .inr (1, [.ref rm, .ref fm, .ref sm, .int (nI cn), .int th])), (rm, .inl (kI, 4000, .inl R)), (fm, .inl (kI, 4000, .inl F)), (sm, .inl (kI, 4000, .inl S))]) H := hP
    have hD : va_D A ([(h, .inr (0, [.ref r1, .ref f1, .ref s1, .int (nI cn)])), (r1, .inl (kI, 4000, .inl R)), (f1, .inl (kI, 4000, .inl F)), (s1, .inl (kI, 4000, .inl S)), (o, .inl (kJ, 1, .inr (.inl (vp_updL g 0 ((R (rk_pb R e1 cn)).toInt64))))), (hm, .inr (1, [.ref rm, .ref fm, .ref sm, .int (nI cn), .int th])), (rm, .inl (kI, 4000, .inl R)), (fm, .inl (kI, 4000, .inl F)), (sm, .inl (kI, 4000, .inl S))]) := hD
    refine lv_istore (lv' := [(5, .int 0), (4, .int (nI (5 * i))), (3, .ref o), (2, .ref hm), (1, .ref h), (0, .ref b)]) hx hb dL_law_471 hl (by decide) rfl (fun ls hl => ?_)
    refine lv_aload_n hx hb dL_law_473 rfl (lv_at hl 3 rfl) ?_
    refine lv_aload_n hx hb dL_law_474 rfl (lv_at hl 5 rfl) ?_
    refine lv_iload hx hb dL_law_475 (lv_at hl 1 rfl) ?_
    refine lv_iconst (v := 1) hx hb dL_law_477 (by decide) ?_
    refine lv_iadd hx hb dL_law_478 ?_
    refine q_top (nI ((5 * i) + 1)) (nI_1 _) ?_
    refine va_sld hx hb hXs hbl hbA hS (vp_in_nI (n := ((5 * i) + 1)) (by omega) (by omega)) dL_law_479 ?_
    refine q_top e1 he1 ?_
    refine r_vwi (rm := ({ frames := 8, cells := 1, slots := 6, locals := 180 } : Room)) (As := [.int e1]) (rest := []) (p_next_ok l D ad kI kJ (h, .inr (0, [.ref r1, .ref f1, .ref s1, .int (nI cn)])) (r1, .inl (kI, 4000, .inl R)) (f1, .inl (kI, 4000, .inl F)) (s1, .inl (kI, 4000, .inl S)) (o, .inl (kJ, 1, .inr (.inl (vp_updL g 0 ((R (rk_pb R e1 cn)).toInt64))))) hm rm fm sm R F S cn th e1 hl9 hR hk) SC (vx_cwVW 1 hts gL2_Z_next rfl rfl rfl (by decide +kernel) ⟨Nat.le_of_ble_eq_true rfl, Nat.le_of_ble_eq_true rfl⟩) hP hK hD hS hA hX 5 rfl rfl rfl hl.1 rfl (Nat.le_of_ble_eq_true rfl) dL_law_480 ⟨by show (cells + 1) + 1 ≤ 1047; omega, by show (slots + 6) + 6 ≤ 32286; omega⟩ (fun H locs hP hD hS => ?_)
    have hP : va_P D vwD ([(h, .inr (0, [.ref r1, .ref f1, .ref s1, .int (nI cn)])), (r1, .inl (kI, 4000, .inl R)), (f1, .inl (kI, 4000, .inl F)), (s1, .inl (kI, 4000, .inl S)), (o, .inl (kJ, 1, .inr (.inl (vp_updL g 0 ((R (rk_pb R e1 cn)).toInt64))))), (hm, .inr (1, [.ref rm, .ref fm, .ref sm, .int (nI cn), .int 0])), (rm, .inl (kI, 4000, .inl R)), (fm, .inl (kI, 4000, .inl F)), (sm, .inl (kI, 4000, .inl S))]) H := hP
    have hD : va_D A ([(h, .inr (0, [.ref r1, .ref f1, .ref s1, .int (nI cn)])), (r1, .inl (kI, 4000, .inl R)), (f1, .inl (kI, 4000, .inl F)), (s1, .inl (kI, 4000, .inl S)), (o, .inl (kJ, 1, .inr (.inl (vp_updL g 0 ((R (rk_pb R e1 cn)).toInt64))))), (hm, .inr (1, [.ref rm, .ref fm, .ref sm, .int (nI cn), .int 0])), (rm, .inl (kI, 4000, .inl R)), (fm, .inl (kI, 4000, .inl F)), (sm, .inl (kI, 4000, .inl S))]) := hD
    refine lv_istore (lv' := [(6, .int (R (rk_pb R e1 cn))), (5, .int 0), (4, .int (nI (5 * i))), (3, .ref o), (2, .ref hm), (1, .ref h), (0, .ref b)]) hx hb dL_law_483 hl (by decide) rfl (fun ls hl => ?_)
    refine lv_aload_n hx hb dL_law_485 rfl (lv_at hl 4 rfl) ?_
    refine r_i (rm := ({ frames := 0, cells := 0, slots := 0, locals := 0 } : Room)) (As := []) (rest := []) (j_tn l D ad kI kJ (h, .inr (0, [.ref r1, .ref f1, .ref s1, .int (nI cn)])) (r1, .inl (kI, 4000, .inl R)) (f1, .inl (kI, 4000, .inl F)) (s1, .inl (kI, 4000, .inl S)) (o, .inl (kJ, 1, .inr (.inl (vp_updL g 0 ((R (rk_pb R e1 cn)).toInt64))))) hm rm fm sm R F S cn 0) SC (cwV 0 hts gL2_Z_thrown rfl rfl rfl (by decide +kernel) ⟨Nat.le_of_ble_eq_true rfl, Nat.le_of_ble_eq_true rfl⟩) hP hK hD hS hA hX 5 rfl rfl rfl hl.1 rfl (Nat.le_of_ble_eq_true rfl) dL_law_486 ⟨by show ((cells + 1) + 1) + 0 ≤ 1047; omega, by show ((slots + 6) + 6) + 0 ≤ 32286; omega⟩ (fun H locs hP hD hS => ?_)
    have hP : va_P D vwD ([(h, .inr (0, [.ref r1, .ref f1, .ref s1, .int (nI cn)])), (r1, .inl (kI, 4000, .inl R)), (f1, .inl (kI, 4000, .inl F)), (s1, .inl (kI, 4000, .inl S)), (o, .inl (kJ, 1, .inr (.inl (vp_updL g 0 ((R (rk_pb R e1 cn)).toInt64))))), (hm, .inr (1, [.ref rm, .ref fm, .ref sm, .int (nI cn), .int 0])), (rm, .inl (kI, 4000, .inl R)), (fm, .inl (kI, 4000, .inl F)), (sm, .inl (kI, 4000, .inl S))]) H := hP
    have hD : va_D A ([(h, .inr (0, [.ref r1, .ref f1, .ref s1, .int (nI cn)])), (r1, .inl (kI, 4000, .inl R)), (f1, .inl (kI, 4000, .inl F)), (s1, .inl (kI, 4000, .inl S)), (o, .inl (kJ, 1, .inr (.inl (vp_updL g 0 ((R (rk_pb R e1 cn)).toInt64))))), (hm, .inr (1, [.ref rm, .ref fm, .ref sm, .int (nI cn), .int 0])), (rm, .inl (kI, 4000, .inl R)), (fm, .inl (kI, 4000, .inl F)), (sm, .inl (kI, 4000, .inl S))]) := hD
    refine lv_iload hx hb dL_law_489 (lv_at hl 1 rfl) ?_
    refine lv_icmp_eq (tgt := 496) hx hb dL_law_491 (by decide) (fun _ => ?_) (fun h9 => absurd (rfl) h9)
    refine lv_iload hx hb dL_law_496 (lv_at hl 1 rfl) ?_
    refine lv_if_ne (tgt := 513) hx hb dL_law_498 (by decide) (fun h9 => absurd h9 (fun q => q rfl)) (fun _ => ?_)
    refine lv_aload_n hx hb dL_law_501 rfl (lv_at hl 3 rfl) ?_
    refine lv_iconst (v := 0) hx hb dL_law_502 (by decide) ?_
    refine va_lald hx hb hK hP 4 1 rfl rfl (vp_in_nI (n := 0) (N := 1) (by decide) (by decide)) dL_law_503 ?_
    refine q_topl ((R (rk_pb R e1 cn)).toInt64) (by rw [sb_cl0, pk_uLs]) ?_
    refine lv_iload hx hb dL_law_504 (lv_at hl 0 rfl) ?_
    refine lv_i2l hx hb dL_law_506 rfl ?_
    refine W.lcmp hx hb dL_law_507 ?_
    refine q_top 0 ((lg_cmp_eq _ _).mpr rfl) ?_
    refine lv_if_eq (tgt := 513) hx hb dL_law_508 (by decide) (fun _ => ?_) (fun h9 => absurd (rfl) h9)
    refine lv_goto (tgt := 585) hx hb dL_law_513 (by decide) ?_
    refine W.widen (k := cells + 2) (n := slots + 12) (by omega) (by omega) ?_
    exact kk R F S cn (vp_updL g 0 ((R (rk_pb R e1 cn)).toInt64)) 0 H locs ls (hR) hP hD hS (lv_sub hl [2, 3, 4, 5, 6] rfl)
  · refine r_swi (rm := ({ frames := 9, cells := 1, slots := 6, locals := 200 } : Room)) (As := [.ref h, .int e1, .ref o]) (rest := []) (w_next_bad l D ad kI kJ [(hm, .inr (1, [.ref rm, .ref fm, .ref sm, .int (nI cn), .int th])), (rm, .inl (kI, 4000, .inl R)), (fm, .inl (kI, 4000, .inl F)), (sm, .inl (kI, 4000, .inl S))] h r1 f1 s1 o R F S cn g e1 hl9 hR hk) SC (vx_cwSW 3 hts (zg_law gL_law_L_next) rfl rfl rfl (by decide +kernel) ⟨Nat.le_of_ble_eq_true rfl, Nat.le_of_ble_eq_true rfl⟩) hP hK hD hS hA hX rfl hl.1 rfl (Nat.le_of_ble_eq_true rfl) dL_law_468 ⟨by show cells + 1 ≤ 1047; omega, by show slots + 6 ≤ 32286; omega⟩ (fun H locs hP hD hS => ?_)
    have hP : va_P D vwD ([(h, .inr (0, [.ref r1, .ref f1, .ref s1, .int (nI cn)])), (r1, .inl (kI, 4000, .inl R)), (f1, .inl (kI, 4000, .inl F)), (s1, .inl (kI, 4000, .inl S)), (o, .inl (kJ, 1, .inr (.inl g))), (hm, .inr (1, [.ref rm, .ref fm, .ref sm, .int (nI cn), .int th])), (rm, .inl (kI, 4000, .inl R)), (fm, .inl (kI, 4000, .inl F)), (sm, .inl (kI, 4000, .inl S))]) H := hP
    have hD : va_D A ([(h, .inr (0, [.ref r1, .ref f1, .ref s1, .int (nI cn)])), (r1, .inl (kI, 4000, .inl R)), (f1, .inl (kI, 4000, .inl F)), (s1, .inl (kI, 4000, .inl S)), (o, .inl (kJ, 1, .inr (.inl g))), (hm, .inr (1, [.ref rm, .ref fm, .ref sm, .int (nI cn), .int th])), (rm, .inl (kI, 4000, .inl R)), (fm, .inl (kI, 4000, .inl F)), (sm, .inl (kI, 4000, .inl S))]) := hD
    refine lv_istore (lv' := [(5, .int 1), (4, .int (nI (5 * i))), (3, .ref o), (2, .ref hm), (1, .ref h), (0, .ref b)]) hx hb dL_law_471 hl (by decide) rfl (fun ls hl => ?_)
    refine lv_aload_n hx hb dL_law_473 rfl (lv_at hl 3 rfl) ?_
    refine lv_aload_n hx hb dL_law_474 rfl (lv_at hl 5 rfl) ?_
    refine lv_iload hx hb dL_law_475 (lv_at hl 1 rfl) ?_
    refine lv_iconst (v := 1) hx hb dL_law_477 (by decide) ?_
    refine lv_iadd hx hb dL_law_478 ?_
    refine q_top (nI ((5 * i) + 1)) (nI_1 _) ?_
    refine va_sld hx hb hXs hbl hbA hS (vp_in_nI (n := ((5 * i) + 1)) (by omega) (by omega)) dL_law_479 ?_
    refine q_top e1 he1 ?_
    refine r_vwi (rm := ({ frames := 8, cells := 1, slots := 6, locals := 180 } : Room)) (As := [.int e1]) (rest := []) (p_next_bad l D ad kI kJ (h, .inr (0, [.ref r1, .ref f1, .ref s1, .int (nI cn)])) (r1, .inl (kI, 4000, .inl R)) (f1, .inl (kI, 4000, .inl F)) (s1, .inl (kI, 4000, .inl S)) (o, .inl (kJ, 1, .inr (.inl g))) hm rm fm sm R F S cn th e1 hl9 hR hk) SC (vx_cwVW 1 hts gL2_Z_next rfl rfl rfl (by decide +kernel) ⟨Nat.le_of_ble_eq_true rfl, Nat.le_of_ble_eq_true rfl⟩) hP hK hD hS hA hX 5 rfl rfl rfl hl.1 rfl (Nat.le_of_ble_eq_true rfl) dL_law_480 ⟨by show (cells + 1) + 1 ≤ 1047; omega, by show (slots + 6) + 6 ≤ 32286; omega⟩ (fun H locs hP hD hS => ?_)
    have hP : va_P D vwD ([(h, .inr (0, [.ref r1, .ref f1, .ref s1, .int (nI cn)])), (r1, .inl (kI, 4000, .inl R)), (f1, .inl (kI, 4000, .inl F)), (s1, .inl (kI, 4000, .inl S)), (o, .inl (kJ, 1, .inr (.inl g))), (hm, .inr (1, [.ref rm, .ref fm, .ref sm, .int (nI cn), .int (1)])), (rm, .inl (kI, 4000, .inl R)), (fm, .inl (kI, 4000, .inl F)), (sm, .inl (kI, 4000, .inl S))]) H := hP
    have hD : va_D A ([(h, .inr (0, [.ref r1, .ref f1, .ref s1, .int (nI cn)])), (r1, .inl (kI, 4000, .inl R)), (f1, .inl (kI, 4000, .inl F)), (s1, .inl (kI, 4000, .inl S)), (o, .inl (kJ, 1, .inr (.inl g))), (hm, .inr (1, [.ref rm, .ref fm, .ref sm, .int (nI cn), .int (1)])), (rm, .inl (kI, 4000, .inl R)), (fm, .inl (kI, 4000, .inl F)), (sm, .inl (kI, 4000, .inl S))]) := hD
    refine lv_istore (lv' := [(6, .int 0), (5, .int 1), (4, .int (nI (5 * i))), (3, .ref o), (2, .ref hm), (1, .ref h), (0, .ref b)]) hx hb dL_law_483 hl (by decide) rfl (fun ls hl => ?_)
    refine lv_aload_n hx hb dL_law_485 rfl (lv_at hl 4 rfl) ?_
    refine r_i (rm := ({ frames := 0, cells := 0, slots := 0, locals := 0 } : Room)) (As := []) (rest := []) (j_tn l D ad kI kJ (h, .inr (0, [.ref r1, .ref f1, .ref s1, .int (nI cn)])) (r1, .inl (kI, 4000, .inl R)) (f1, .inl (kI, 4000, .inl F)) (s1, .inl (kI, 4000, .inl S)) (o, .inl (kJ, 1, .inr (.inl g))) hm rm fm sm R F S cn (1)) SC (cwV 0 hts gL2_Z_thrown rfl rfl rfl (by decide +kernel) ⟨Nat.le_of_ble_eq_true rfl, Nat.le_of_ble_eq_true rfl⟩) hP hK hD hS hA hX 5 rfl rfl rfl hl.1 rfl (Nat.le_of_ble_eq_true rfl) dL_law_486 ⟨by show ((cells + 1) + 1) + 0 ≤ 1047; omega, by show ((slots + 6) + 6) + 0 ≤ 32286; omega⟩ (fun H locs hP hD hS => ?_)
    have hP : va_P D vwD ([(h, .inr (0, [.ref r1, .ref f1, .ref s1, .int (nI cn)])), (r1, .inl (kI, 4000, .inl R)), (f1, .inl (kI, 4000, .inl F)), (s1, .inl (kI, 4000, .inl S)), (o, .inl (kJ, 1, .inr (.inl g))), (hm, .inr (1, [.ref rm, .ref fm, .ref sm, .int (nI cn), .int (1)])), (rm, .inl (kI, 4000, .inl R)), (fm, .inl (kI, 4000, .inl F)), (sm, .inl (kI, 4000, .inl S))]) H := hP
    have hD : va_D A ([(h, .inr (0, [.ref r1, .ref f1, .ref s1, .int (nI cn)])), (r1, .inl (kI, 4000, .inl R)), (f1, .inl (kI, 4000, .inl F)), (s1, .inl (kI, 4000, .inl S)), (o, .inl (kJ, 1, .inr (.inl g))), (hm, .inr (1, [.ref rm, .ref fm, .ref sm, .int (nI cn), .int (1)])), (rm, .inl (kI, 4000, .inl R)), (fm, .inl (kI, 4000, .inl F)), (sm, .inl (kI, 4000, .inl S))]) := hD
    refine lv_iload hx hb dL_law_489 (lv_at hl 1 rfl) ?_
    refine lv_icmp_eq (tgt := 496) hx hb dL_law_491 (by decide) (fun _ => ?_) (fun h9 => absurd (rfl) h9)
    refine lv_iload hx hb dL_law_496 (lv_at hl 1 rfl) ?_
    refine lv_if_ne (tgt := 513) hx hb dL_law_498 (by decide) (fun _ => ?_) (fun h9 => absurd h9 ((by decide : ¬ (1 : Int32) = 0)))
    refine lv_goto (tgt := 585) hx hb dL_law_513 (by decide) ?_
    refine W.widen (k := cells + 2) (n := slots + 12) (by omega) (by omega) ?_
    exact kk R F S cn g (1) H locs ls (hR) hP hD hS (lv_sub hl [2, 3, 4, 5, 6] rfl)
set_option maxHeartbeats 4000000 in
set_option maxRecDepth 100000 in
theorem lc_place {p : Program} {l : Launch} {e : Env} {s : State} {m : MethodId} {below : List Frame} {meth : Method} {c : Code} {b L : Nat} {xs : Nat → Int32} {D : va_G} {ad : Nat → Nat} {kI kJ : ClassId} {A : Nat → Prop} {Q : State → Prop} (C0 : lwC p l s m c b L xs D ad kI kJ A) (h r1 f1 s1 o hm rm fm sm : Nat) (R F S : Nat → Int32) (cn : Nat) (g : Nat → Int64) (th : Int32) (hR : rk_ok R cn) (i : Nat) (hi : 5 * i + 5 ≤ L) (hL : L ≤ 2560) {H : Heap} {locs : List Loc} {cells slots : Nat} (hcc : cells + 2 ≤ 1047) (hss : slots + 12 ≤ 32286) (hP : va_P D vwD (wL h r1 f1 s1 o hm rm fm sm kI kJ R F S cn g th) H) (hD : va_D A (wL h r1 f1 s1 o hm rm fm sm kI kJ R F S cn g th)) (hS : va_S A s.heap H locs) {ls : Array Slot} (hl : lv_has ls 7 [(4, .int (nI (5 * i))), (3, .ref o), (2, .ref hm), (1, .ref h), (0, .ref b)])
    (kk : ∀ (R F S : Nat → Int32) (cn : Nat) (g : Nat → Int64) (th : Int32) (H : Heap) (locs : List Loc) (ls : Array Slot), rk_ok R cn → va_P D vwD (wL h r1 f1 s1 o hm rm fm sm kI kJ R F S cn g th) H → va_D A (wL h r1 f1 s1 o hm rm fm sm kI kJ R F S cn g th) → va_S A s.heap H locs → lv_has ls 7 [(4, .int (nI (5 * i))), (3, .ref o), (2, .ref hm), (1, .ref h), (0, .ref b)] → W p l e room_1 s m #[Value.ref b] below meth c H locs (cells + 2) (slots + 12) Q (F0 m 585 ls [])) : W p l e room_1 s m #[Value.ref b] below meth c H locs cells slots Q (F0 m 516 ls []) := by
  obtain ⟨hx, hb, hml, hown, hts, hXs, hbl, hbA, hA, hK, hX, hl9⟩ := id C0
  have SC : CallFix p m c cL_law 7 s #[Value.ref b] wsL2 RL := ⟨hx, hb, hml, hown, hts⟩
  obtain ⟨e1, he1⟩ : ∃ x, xs (nI (5 * i + 1)).toNatClampNeg = x := ⟨_, rfl⟩
  refine lv_aload_n hx hb dL_law_516 rfl (lv_at hl 3 rfl) ?_
  refine lv_aload_n hx hb dL_law_517 rfl (lv_at hl 4 rfl) ?_
  refine lv_iload hx hb dL_law_518 (lv_at hl 0 rfl) ?_
  refine lv_iconst (v := 1) hx hb dL_law_520 (by decide) ?_
  refine lv_iadd hx hb dL_law_521 ?_
  refine q_top (nI ((5 * i) + 1)) (nI_1 _) ?_
  refine va_sld hx hb hXs hbl hbA hS (vp_in_nI (n := ((5 * i) + 1)) (by omega) (by omega)) dL_law_522 ?_
  refine q_top e1 he1 ?_
  refine lv_aload_n hx hb dL_law_523 rfl (lv_at hl 1 rfl) ?_
  by_cases hk : rk_kP e1 cn = 0
  · refine r_swi (rm := ({ frames := 9, cells := 1, slots := 6, locals := 200 } : Room)) (As := [.ref h, .int e1, .ref o]) (rest := []) (w_place_ok l D ad kI kJ [(hm, .inr (1, [.ref rm, .ref fm, .ref sm, .int (nI cn), .int th])), (rm, .inl (kI, 4000, .inl R)), (fm, .inl (kI, 4000, .inl F)), (sm, .inl (kI, 4000, .inl S))] h r1 f1 s1 o R F S cn g e1 hl9 hR hk) SC (vx_cwSW 3 hts (zg_law gL_law_L_place) rfl rfl rfl (by decide +kernel) ⟨Nat.le_of_ble_eq_true rfl, Nat.le_of_ble_eq_true rfl⟩) hP hK hD hS hA hX rfl hl.1 rfl (Nat.le_of_ble_eq_true rfl) dL_law_524 ⟨by show cells + 1 ≤ 1047; omega, by show slots + 6 ≤ 32286; omega⟩ (fun H locs hP hD hS => ?_)
    have hP : va_P D vwD ([(h, .inr (0, [.ref r1, .ref f1, .ref s1, .int (nI cn)])), (r1, .inl (kI, 4000, .inl R)), (f1, .inl (kI, 4000, .inl F)), (s1, .inl (kI, 4000, .inl S)), (o, .inl (kJ, 1, .inr (.inl (vp_updL g 0 ((nI (rk_pl R e1 cn)).toInt64))))), (hm, .inr (1, [.ref rm, .ref fm, .ref sm, .int (nI cn), .int th])), (rm, .inl (kI, 4000, .inl R)), (fm, .inl (kI, 4000, .inl F)), (sm, .inl (kI, 4000, .inl S))]) H := hP
    have hD : va_D A ([(h, .inr (0, [.ref r1, .ref f1, .ref s1, .int (nI cn)])), (r1, .inl (kI, 4000, .inl R)), (f1, .inl (kI, 4000, .inl F)), (s1, .inl (kI, 4000, .inl S)), (o, .inl (kJ, 1, .inr (.inl (vp_updL g 0 ((nI (rk_pl R e1 cn)).toInt64))))), (hm, .inr (1, [.ref rm, .ref fm, .ref sm, .int (nI cn), .int th])), (rm, .inl (kI, 4000, .inl R)), (fm, .inl (kI, 4000, .inl F)), (sm, .inl (kI, 4000, .inl S))]) := hD
    refine lv_istore (lv' := [(5, .int 0), (4, .int (nI (5 * i))), (3, .ref o), (2, .ref hm), (1, .ref h), (0, .ref b)]) hx hb dL_law_527 hl (by decide) rfl (fun ls hl => ?_)
    refine lv_aload_n hx hb dL_law_529 rfl (lv_at hl 3 rfl) ?_
    refine lv_aload_n hx hb dL_law_530 rfl (lv_at hl 5 rfl) ?_
    refine lv_iload hx hb dL_law_531 (lv_at hl 1 rfl) ?_
    refine lv_iconst (v := 1) hx hb dL_law_533 (by decide) ?_
    refine lv_iadd hx hb dL_law_534 ?_
    refine q_top (nI ((5 * i) + 1)) (nI_1 _) ?_
    refine va_sld hx hb hXs hbl hbA hS (vp_in_nI (n := ((5 * i) + 1)) (by omega) (by omega)) dL_law_535 ?_
    refine q_top e1 he1 ?_
    refine r_vwi (rm := ({ frames := 8, cells := 1, slots := 6, locals := 180 } : Room)) (As := [.int e1]) (rest := []) (p_place_ok l D ad kI kJ (h, .inr (0, [.ref r1, .ref f1, .ref s1, .int (nI cn)])) (r1, .inl (kI, 4000, .inl R)) (f1, .inl (kI, 4000, .inl F)) (s1, .inl (kI, 4000, .inl S)) (o, .inl (kJ, 1, .inr (.inl (vp_updL g 0 ((nI (rk_pl R e1 cn)).toInt64))))) hm rm fm sm R F S cn th e1 hl9 hR hk) SC (vx_cwVW 1 hts gL2_Z_place rfl rfl rfl (by decide +kernel) ⟨Nat.le_of_ble_eq_true rfl, Nat.le_of_ble_eq_true rfl⟩) hP hK hD hS hA hX 5 rfl rfl rfl hl.1 rfl (Nat.le_of_ble_eq_true rfl) dL_law_536 ⟨by show (cells + 1) + 1 ≤ 1047; omega, by show (slots + 6) + 6 ≤ 32286; omega⟩ (fun H locs hP hD hS => ?_)
    have hP : va_P D vwD ([(h, .inr (0, [.ref r1, .ref f1, .ref s1, .int (nI cn)])), (r1, .inl (kI, 4000, .inl R)), (f1, .inl (kI, 4000, .inl F)), (s1, .inl (kI, 4000, .inl S)), (o, .inl (kJ, 1, .inr (.inl (vp_updL g 0 ((nI (rk_pl R e1 cn)).toInt64))))), (hm, .inr (1, [.ref rm, .ref fm, .ref sm, .int (nI cn), .int 0])), (rm, .inl (kI, 4000, .inl R)), (fm, .inl (kI, 4000, .inl F)), (sm, .inl (kI, 4000, .inl S))]) H := hP
    have hD : va_D A ([(h, .inr (0, [.ref r1, .ref f1, .ref s1, .int (nI cn)])), (r1, .inl (kI, 4000, .inl R)), (f1, .inl (kI, 4000, .inl F)), (s1, .inl (kI, 4000, .inl S)), (o, .inl (kJ, 1, .inr (.inl (vp_updL g 0 ((nI (rk_pl R e1 cn)).toInt64))))), (hm, .inr (1, [.ref rm, .ref fm, .ref sm, .int (nI cn), .int 0])), (rm, .inl (kI, 4000, .inl R)), (fm, .inl (kI, 4000, .inl F)), (sm, .inl (kI, 4000, .inl S))]) := hD
    refine lv_istore (lv' := [(6, .int (nI (rk_pl R e1 cn))), (5, .int 0), (4, .int (nI (5 * i))), (3, .ref o), (2, .ref hm), (1, .ref h), (0, .ref b)]) hx hb dL_law_539 hl (by decide) rfl (fun ls hl => ?_)
    refine lv_aload_n hx hb dL_law_541 rfl (lv_at hl 4 rfl) ?_
    refine r_i (rm := ({ frames := 0, cells := 0, slots := 0, locals := 0 } : Room)) (As := []) (rest := []) (j_tn l D ad kI kJ (h, .inr (0, [.ref r1, .ref f1, .ref s1, .int (nI cn)])) (r1, .inl (kI, 4000, .inl R)) (f1, .inl (kI, 4000, .inl F)) (s1, .inl (kI, 4000, .inl S)) (o, .inl (kJ, 1, .inr (.inl (vp_updL g 0 ((nI (rk_pl R e1 cn)).toInt64))))) hm rm fm sm R F S cn 0) SC (cwV 0 hts gL2_Z_thrown rfl rfl rfl (by decide +kernel) ⟨Nat.le_of_ble_eq_true rfl, Nat.le_of_ble_eq_true rfl⟩) hP hK hD hS hA hX 5 rfl rfl rfl hl.1 rfl (Nat.le_of_ble_eq_true rfl) dL_law_542 ⟨by show ((cells + 1) + 1) + 0 ≤ 1047; omega, by show ((slots + 6) + 6) + 0 ≤ 32286; omega⟩ (fun H locs hP hD hS => ?_)
    have hP : va_P D vwD ([(h, .inr (0, [.ref r1, .ref f1, .ref s1, .int (nI cn)])), (r1, .inl (kI, 4000, .inl R)), (f1, .inl (kI, 4000, .inl F)), (s1, .inl (kI, 4000, .inl S)), (o, .inl (kJ, 1, .inr (.inl (vp_updL g 0 ((nI (rk_pl R e1 cn)).toInt64))))), (hm, .inr (1, [.ref rm, .ref fm, .ref sm, .int (nI cn), .int 0])), (rm, .inl (kI, 4000, .inl R)), (fm, .inl (kI, 4000, .inl F)), (sm, .inl (kI, 4000, .inl S))]) H := hP
    have hD : va_D A ([(h, .inr (0, [.ref r1, .ref f1, .ref s1, .int (nI cn)])), (r1, .inl (kI, 4000, .inl R)), (f1, .inl (kI, 4000, .inl F)), (s1, .inl (kI, 4000, .inl S)), (o, .inl (kJ, 1, .inr (.inl (vp_updL g 0 ((nI (rk_pl R e1 cn)).toInt64))))), (hm, .inr (1, [.ref rm, .ref fm, .ref sm, .int (nI cn), .int 0])), (rm, .inl (kI, 4000, .inl R)), (fm, .inl (kI, 4000, .inl F)), (sm, .inl (kI, 4000, .inl S))]) := hD
    refine lv_iload hx hb dL_law_545 (lv_at hl 1 rfl) ?_
    refine lv_icmp_eq (tgt := 552) hx hb dL_law_547 (by decide) (fun _ => ?_) (fun h9 => absurd (rfl) h9)
    refine lv_iload hx hb dL_law_552 (lv_at hl 1 rfl) ?_
    refine lv_if_ne (tgt := 569) hx hb dL_law_554 (by decide) (fun h9 => absurd h9 (fun q => q rfl)) (fun _ => ?_)
    refine lv_aload_n hx hb dL_law_557 rfl (lv_at hl 3 rfl) ?_
    refine lv_iconst (v := 0) hx hb dL_law_558 (by decide) ?_
    refine va_lald hx hb hK hP 4 1 rfl rfl (vp_in_nI (n := 0) (N := 1) (by decide) (by decide)) dL_law_559 ?_
    refine q_topl ((nI (rk_pl R e1 cn)).toInt64) (by rw [sb_cl0, pk_uLs]) ?_
    refine lv_iload hx hb dL_law_560 (lv_at hl 0 rfl) ?_
    refine lv_i2l hx hb dL_law_562 rfl ?_
    refine W.lcmp hx hb dL_law_563 ?_
    refine q_top 0 ((lg_cmp_eq _ _).mpr rfl) ?_
    refine lv_if_eq (tgt := 569) hx hb dL_law_564 (by decide) (fun _ => ?_) (fun h9 => absurd (rfl) h9)
    refine lv_goto (tgt := 585) hx hb dL_law_569 (by decide) ?_
    refine W.widen (k := cells + 2) (n := slots + 12) (by omega) (by omega) ?_
    exact kk R F S cn (vp_updL g 0 ((nI (rk_pl R e1 cn)).toInt64)) 0 H locs ls (hR) hP hD hS (lv_sub hl [2, 3, 4, 5, 6] rfl)
  · refine r_swi (rm := ({ frames := 9, cells := 1, slots := 6, locals := 200 } : Room)) (As := [.ref h, .int e1, .ref o]) (rest := []) (w_place_bad l D ad kI kJ [(hm, .inr (1, [.ref rm, .ref fm, .ref sm, .int (nI cn), .int th])), (rm, .inl (kI, 4000, .inl R)), (fm, .inl (kI, 4000, .inl F)), (sm, .inl (kI, 4000, .inl S))] h r1 f1 s1 o R F S cn g e1 hl9 hR hk) SC (vx_cwSW 3 hts (zg_law gL_law_L_place) rfl rfl rfl (by decide +kernel) ⟨Nat.le_of_ble_eq_true rfl, Nat.le_of_ble_eq_true rfl⟩) hP hK hD hS hA hX rfl hl.1 rfl (Nat.le_of_ble_eq_true rfl) dL_law_524 ⟨by show cells + 1 ≤ 1047; omega, by show slots + 6 ≤ 32286; omega⟩ (fun H locs hP hD hS => ?_)
    have hP : va_P D vwD ([(h, .inr (0, [.ref r1, .ref f1, .ref s1, .int (nI cn)])), (r1, .inl (kI, 4000, .inl R)), (f1, .inl (kI, 4000, .inl F)), (s1, .inl (kI, 4000, .inl S)), (o, .inl (kJ, 1, .inr (.inl g))), (hm, .inr (1, [.ref rm, .ref fm, .ref sm, .int (nI cn), .int th])), (rm, .inl (kI, 4000, .inl R)), (fm, .inl (kI, 4000, .inl F)), (sm, .inl (kI, 4000, .inl S))]) H := hP
    have hD : va_D A ([(h, .inr (0, [.ref r1, .ref f1, .ref s1, .int (nI cn)])), (r1, .inl (kI, 4000, .inl R)), (f1, .inl (kI, 4000, .inl F)), (s1, .inl (kI, 4000, .inl S)), (o, .inl (kJ, 1, .inr (.inl g))), (hm, .inr (1, [.ref rm, .ref fm, .ref sm, .int (nI cn), .int th])), (rm, .inl (kI, 4000, .inl R)), (fm, .inl (kI, 4000, .inl F)), (sm, .inl (kI, 4000, .inl S))]) := hD
    refine lv_istore (lv' := [(5, .int 1), (4, .int (nI (5 * i))), (3, .ref o), (2, .ref hm), (1, .ref h), (0, .ref b)]) hx hb dL_law_527 hl (by decide) rfl (fun ls hl => ?_)
    refine lv_aload_n hx hb dL_law_529 rfl (lv_at hl 3 rfl) ?_
    refine lv_aload_n hx hb dL_law_530 rfl (lv_at hl 5 rfl) ?_
    refine lv_iload hx hb dL_law_531 (lv_at hl 1 rfl) ?_
    refine lv_iconst (v := 1) hx hb dL_law_533 (by decide) ?_
    refine lv_iadd hx hb dL_law_534 ?_
    refine q_top (nI ((5 * i) + 1)) (nI_1 _) ?_
    refine va_sld hx hb hXs hbl hbA hS (vp_in_nI (n := ((5 * i) + 1)) (by omega) (by omega)) dL_law_535 ?_
    refine q_top e1 he1 ?_
    refine r_vwi (rm := ({ frames := 8, cells := 1, slots := 6, locals := 180 } : Room)) (As := [.int e1]) (rest := []) (p_place_bad l D ad kI kJ (h, .inr (0, [.ref r1, .ref f1, .ref s1, .int (nI cn)])) (r1, .inl (kI, 4000, .inl R)) (f1, .inl (kI, 4000, .inl F)) (s1, .inl (kI, 4000, .inl S)) (o, .inl (kJ, 1, .inr (.inl g))) hm rm fm sm R F S cn th e1 hl9 hR hk) SC (vx_cwVW 1 hts gL2_Z_place rfl rfl rfl (by decide +kernel) ⟨Nat.le_of_ble_eq_true rfl, Nat.le_of_ble_eq_true rfl⟩) hP hK hD hS hA hX 5 rfl rfl rfl hl.1 rfl (Nat.le_of_ble_eq_true rfl) dL_law_536 ⟨by show (cells + 1) + 1 ≤ 1047; omega, by show (slots + 6) + 6 ≤ 32286; omega⟩ (fun H locs hP hD hS => ?_)
    have hP : va_P D vwD ([(h, .inr (0, [.ref r1, .ref f1, .ref s1, .int (nI cn)])), (r1, .inl (kI, 4000, .inl R)), (f1, .inl (kI, 4000, .inl F)), (s1, .inl (kI, 4000, .inl S)), (o, .inl (kJ, 1, .inr (.inl g))), (hm, .inr (1, [.ref rm, .ref fm, .ref sm, .int (nI cn), .int (1)])), (rm, .inl (kI, 4000, .inl R)), (fm, .inl (kI, 4000, .inl F)), (sm, .inl (kI, 4000, .inl S))]) H := hP
    have hD : va_D A ([(h, .inr (0, [.ref r1, .ref f1, .ref s1, .int (nI cn)])), (r1, .inl (kI, 4000, .inl R)), (f1, .inl (kI, 4000, .inl F)), (s1, .inl (kI, 4000, .inl S)), (o, .inl (kJ, 1, .inr (.inl g))), (hm, .inr (1, [.ref rm, .ref fm, .ref sm, .int (nI cn), .int (1)])), (rm, .inl (kI, 4000, .inl R)), (fm, .inl (kI, 4000, .inl F)), (sm, .inl (kI, 4000, .inl S))]) := hD
    refine lv_istore (lv' := [(6, .int 0), (5, .int 1), (4, .int (nI (5 * i))), (3, .ref o), (2, .ref hm), (1, .ref h), (0, .ref b)]) hx hb dL_law_539 hl (by decide) rfl (fun ls hl => ?_)
    refine lv_aload_n hx hb dL_law_541 rfl (lv_at hl 4 rfl) ?_
    refine r_i (rm := ({ frames := 0, cells := 0, slots := 0, locals := 0 } : Room)) (As := []) (rest := []) (j_tn l D ad kI kJ (h, .inr (0, [.ref r1, .ref f1, .ref s1, .int (nI cn)])) (r1, .inl (kI, 4000, .inl R)) (f1, .inl (kI, 4000, .inl F)) (s1, .inl (kI, 4000, .inl S)) (o, .inl (kJ, 1, .inr (.inl g))) hm rm fm sm R F S cn (1)) SC (cwV 0 hts gL2_Z_thrown rfl rfl rfl (by decide +kernel) ⟨Nat.le_of_ble_eq_true rfl, Nat.le_of_ble_eq_true rfl⟩) hP hK hD hS hA hX 5 rfl rfl rfl hl.1 rfl (Nat.le_of_ble_eq_true rfl) dL_law_542 ⟨by show ((cells + 1) + 1) + 0 ≤ 1047; omega, by show ((slots + 6) + 6) + 0 ≤ 32286; omega⟩ (fun H locs hP hD hS => ?_)
    have hP : va_P D vwD ([(h, .inr (0, [.ref r1, .ref f1, .ref s1, .int (nI cn)])), (r1, .inl (kI, 4000, .inl R)), (f1, .inl (kI, 4000, .inl F)), (s1, .inl (kI, 4000, .inl S)), (o, .inl (kJ, 1, .inr (.inl g))), (hm, .inr (1, [.ref rm, .ref fm, .ref sm, .int (nI cn), .int (1)])), (rm, .inl (kI, 4000, .inl R)), (fm, .inl (kI, 4000, .inl F)), (sm, .inl (kI, 4000, .inl S))]) H := hP
    have hD : va_D A ([(h, .inr (0, [.ref r1, .ref f1, .ref s1, .int (nI cn)])), (r1, .inl (kI, 4000, .inl R)), (f1, .inl (kI, 4000, .inl F)), (s1, .inl (kI, 4000, .inl S)), (o, .inl (kJ, 1, .inr (.inl g))), (hm, .inr (1, [.ref rm, .ref fm, .ref sm, .int (nI cn), .int (1)])), (rm, .inl (kI, 4000, .inl R)), (fm, .inl (kI, 4000, .inl F)), (sm, .inl (kI, 4000, .inl S))]) := hD
    refine lv_iload hx hb dL_law_545 (lv_at hl 1 rfl) ?_
    refine lv_icmp_eq (tgt := 552) hx hb dL_law_547 (by decide) (fun _ => ?_) (fun h9 => absurd (rfl) h9)
    refine lv_iload hx hb dL_law_552 (lv_at hl 1 rfl) ?_
    refine lv_if_ne (tgt := 569) hx hb dL_law_554 (by decide) (fun _ => ?_) (fun h9 => absurd h9 ((by decide : ¬ (1 : Int32) = 0)))
    refine lv_goto (tgt := 585) hx hb dL_law_569 (by decide) ?_
    refine W.widen (k := cells + 2) (n := slots + 12) (by omega) (by omega) ?_
    exact kk R F S cn g (1) H locs ls (hR) hP hD hS (lv_sub hl [2, 3, 4, 5, 6] rfl)
set_option maxHeartbeats 4000000 in
set_option maxRecDepth 100000 in
theorem lc_entries {p : Program} {l : Launch} {e : Env} {s : State} {m : MethodId} {below : List Frame} {meth : Method} {c : Code} {b L : Nat} {xs : Nat → Int32} {D : va_G} {ad : Nat → Nat} {kI kJ : ClassId} {A : Nat → Prop} {Q : State → Prop} (C0 : lwC p l s m c b L xs D ad kI kJ A) (h r1 f1 s1 o hm rm fm sm : Nat) (R F S : Nat → Int32) (cn : Nat) (g : Nat → Int64) (th : Int32) (hR : rk_ok R cn) (i : Nat) (hi : 5 * i + 5 ≤ L) (hL : L ≤ 2560) {H : Heap} {locs : List Loc} {cells slots : Nat} (hcc : cells + 2 ≤ 1047) (hss : slots + 12 ≤ 32286) (hP : va_P D vwD (wL h r1 f1 s1 o hm rm fm sm kI kJ R F S cn g th) H) (hD : va_D A (wL h r1 f1 s1 o hm rm fm sm kI kJ R F S cn g th)) (hS : va_S A s.heap H locs) {ls : Array Slot} (hl : lv_has ls 7 [(4, .int (nI (5 * i))), (3, .ref o), (2, .ref hm), (1, .ref h), (0, .ref b)])
    (kk : ∀ (R F S : Nat → Int32) (cn : Nat) (g : Nat → Int64) (th : Int32) (H : Heap) (locs : List Loc) (ls : Array Slot), rk_ok R cn → va_P D vwD (wL h r1 f1 s1 o hm rm fm sm kI kJ R F S cn g th) H → va_D A (wL h r1 f1 s1 o hm rm fm sm kI kJ R F S cn g th) → va_S A s.heap H locs → lv_has ls 7 [(4, .int (nI (5 * i))), (3, .ref o), (2, .ref hm), (1, .ref h), (0, .ref b)] → W p l e room_1 s m #[Value.ref b] below meth c H locs (cells + 2) (slots + 12) Q (F0 m 585 ls [])) : W p l e room_1 s m #[Value.ref b] below meth c H locs cells slots Q (F0 m 572 ls []) := by
  obtain ⟨hx, hb, hml, hown, hts, hXs, hbl, hbA, hA, hK, hX, hl9⟩ := id C0
  have SC : CallFix p m c cL_law 7 s #[Value.ref b] wsL2 RL := ⟨hx, hb, hml, hown, hts⟩
  refine lv_aload_n hx hb dL_law_572 rfl (lv_at hl 3 rfl) ?_
  refine r_i (rm := ({ frames := 0, cells := 0, slots := 0, locals := 0 } : Room)) (As := []) (rest := []) (k_en l D ad kI kJ ((o, .inl (kJ, 1, .inr (.inl g))) :: [(hm, .inr (1, [.ref rm, .ref fm, .ref sm, .int (nI cn), .int th])), (rm, .inl (kI, 4000, .inl R)), (fm, .inl (kI, 4000, .inl F)), (sm, .inl (kI, 4000, .inl S))]) h r1 f1 s1 R F S cn) SC (cwV 0 hts (zg_law gL_law_X0_entries) rfl rfl rfl (by decide +kernel) ⟨Nat.le_of_ble_eq_true rfl, Nat.le_of_ble_eq_true rfl⟩) hP hK hD hS hA hX 0 rfl rfl rfl hl.1 rfl (Nat.le_of_ble_eq_true rfl) dL_law_573 ⟨by show cells + 0 ≤ 1047; omega, by show slots + 0 ≤ 32286; omega⟩ (fun H locs hP hD hS => ?_)
  have hP : va_P D vwD ([(h, .inr (0, [.ref r1, .ref f1, .ref s1, .int (nI cn)])), (r1, .inl (kI, 4000, .inl R)), (f1, .inl (kI, 4000, .inl F)), (s1, .inl (kI, 4000, .inl S)), (o, .inl (kJ, 1, .inr (.inl g))), (hm, .inr (1, [.ref rm, .ref fm, .ref sm, .int (nI cn), .int th])), (rm, .inl (kI, 4000, .inl R)), (fm, .inl (kI, 4000, .inl F)), (sm, .inl (kI, 4000, .inl S))]) H := hP
  have hD : va_D A ([(h, .inr (0, [.ref r1, .ref f1, .ref s1, .int (nI cn)])), (r1, .inl (kI, 4000, .inl R)), (f1, .inl (kI, 4000, .inl F)), (s1, .inl (kI, 4000, .inl S)), (o, .inl (kJ, 1, .inr (.inl g))), (hm, .inr (1, [.ref rm, .ref fm, .ref sm, .int (nI cn), .int th])), (rm, .inl (kI, 4000, .inl R)), (fm, .inl (kI, 4000, .inl F)), (sm, .inl (kI, 4000, .inl S))]) := hD
  refine lv_aload_n hx hb dL_law_576 rfl (lv_at hl 2 rfl) ?_
  refine r_i (rm := ({ frames := 1, cells := 0, slots := 0, locals := 40 } : Room)) (As := []) (rest := [.int (nI cn)]) (p_entries l D ad kI kJ (h, .inr (0, [.ref r1, .ref f1, .ref s1, .int (nI cn)])) (r1, .inl (kI, 4000, .inl R)) (f1, .inl (kI, 4000, .inl F)) (s1, .inl (kI, 4000, .inl S)) (o, .inl (kJ, 1, .inr (.inl g))) hm rm fm sm R F S cn th) SC (cwV 0 hts gL2_Z_entries rfl rfl rfl (by decide +kernel) ⟨Nat.le_of_ble_eq_true rfl, Nat.le_of_ble_eq_true rfl⟩) hP hK hD hS hA hX 5 rfl rfl rfl hl.1 rfl (Nat.le_of_ble_eq_true rfl) dL_law_577 ⟨by show cells + 0 ≤ 1047; omega, by show slots + 0 ≤ 32286; omega⟩ (fun H locs hP hD hS => ?_)
  have hP : va_P D vwD ([(h, .inr (0, [.ref r1, .ref f1, .ref s1, .int (nI cn)])), (r1, .inl (kI, 4000, .inl R)), (f1, .inl (kI, 4000, .inl F)), (s1, .inl (kI, 4000, .inl S)), (o, .inl (kJ, 1, .inr (.inl g))), (hm, .inr (1, [.ref rm, .ref fm, .ref sm, .int (nI cn), .int 0])), (rm, .inl (kI, 4000, .inl R)), (fm, .inl (kI, 4000, .inl F)), (sm, .inl (kI, 4000, .inl S))]) H := hP
  have hD : va_D A ([(h, .inr (0, [.ref r1, .ref f1, .ref s1, .int (nI cn)])), (r1, .inl (kI, 4000, .inl R)), (f1, .inl (kI, 4000, .inl F)), (s1, .inl (kI, 4000, .inl S)), (o, .inl (kJ, 1, .inr (.inl g))), (hm, .inr (1, [.ref rm, .ref fm, .ref sm, .int (nI cn), .int 0])), (rm, .inl (kI, 4000, .inl R)), (fm, .inl (kI, 4000, .inl F)), (sm, .inl (kI, 4000, .inl S))]) := hD
  refine lv_icmp_eq (tgt := 585) hx hb dL_law_580 (by decide) (fun _ => ?_) (fun h9 => absurd (rfl) h9)
  refine W.widen (k := cells + 2) (n := slots + 12) (by omega) (by omega) ?_
  exact kk R F S cn g 0 H locs ls hR hP hD hS hl
