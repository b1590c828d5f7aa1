/-! What a state of the row IS, in numbers and functions: nothing of the machine here.
R: the entry at a place; F, S: the two weights by the entry's number; c: how many entries. -/
/-- the first k below n at which p holds, n where there is none -/
def rk_fs (p : Nat → Bool) : Nat → Nat
  | 0 => 0
  | n + 1 => if rk_fs p n < n then rk_fs p n else if p n = true then n else n + 1
theorem rk_fs_le (p : Nat → Bool) : ∀ n, rk_fs p n ≤ n
  | 0 => Nat.le_refl _
  | n + 1 => by
    have h := rk_fs_le p n
    show (if rk_fs p n < n then rk_fs p n else if p n = true then n else n + 1) ≤ n + 1
    by_cases h1 : rk_fs p n < n
    · rw [if_pos h1]; omega
    · rw [if_neg h1]
      by_cases h2 : p n = true
      · rw [if_pos h2]; omega
      · rw [if_neg h2]; exact Nat.le_refl _
theorem rk_fs_no (p : Nat → Bool) : ∀ n j, j < rk_fs p n → p j = false
  | 0, j, h => absurd h (Nat.not_lt_zero j)
  | n + 1, j, h => by
    have hle := rk_fs_le p n
    have ih := rk_fs_no p n
    have h' : j < (if rk_fs p n < n then rk_fs p n else if p n = true then n else n + 1) := h
    by_cases h1 : rk_fs p n < n
    · rw [if_pos h1] at h'
      exact ih j h'
    · rw [if_neg h1] at h'
      by_cases h2 : p n = true
      · rw [if_pos h2] at h'
        exact ih j (by omega)
      · rw [if_neg h2] at h'
        by_cases h3 : j < n
        · exact ih j (by omega)
        · have e : j = n := by omega
          rw [e]
          cases hp : p n with
          | false => rfl
          | true => exact absurd hp h2
theorem rk_fs_at (p : Nat → Bool) : ∀ n, rk_fs p n < n → p (rk_fs p n) = true
  | 0, h => absurd h (Nat.not_lt_zero _)
  | n + 1, h => by
    have e : rk_fs p (n + 1) = (if rk_fs p n < n then rk_fs p n else if p n = true then n else n + 1) := rfl
    by_cases h1 : rk_fs p n < n
    · rw [e, if_pos h1]
      exact rk_fs_at p n h1
    · rw [e, if_neg h1] at h ⊢
      by_cases h2 : p n = true
      · rw [if_pos h2]; exact h2
      · rw [if_neg h2] at h
        omega
theorem rk_fs_eq {p : Nat → Bool} {n k : Nat} (h1 : k ≤ n) (h2 : ∀ j, j < k → p j = false) (h3 : k < n → p k = true) : rk_fs p n = k := by
  have g1 := rk_fs_le p n
  have g2 := rk_fs_no p n
  have g3 := rk_fs_at p n
  rcases Nat.lt_trichotomy (rk_fs p n) k with h | h | h
  · have a := g3 (by omega)
    rw [h2 _ h] at a
    cases a
  · exact h
  · have a := h3 (by omega)
    rw [g2 _ h] at a
    cases a
/-- the first place at which entry e stands -/
def rk_pl (R : Nat → Int32) (e : Int32) (c : Nat) : Nat := rk_fs (fun k => decide (R k = e)) c
theorem rk_pl_le (R : Nat → Int32) (e : Int32) (c : Nat) : rk_pl R e c ≤ c := rk_fs_le _ c
theorem rk_pl_no {R : Nat → Int32} {e : Int32} {c j : Nat} (h : j < rk_pl R e c) : ¬ R j = e := of_decide_eq_false (rk_fs_no _ c j h)
theorem rk_pl_at {R : Nat → Int32} {e : Int32} {c : Nat} (h : rk_pl R e c < c) : R (rk_pl R e c) = e := of_decide_eq_true (rk_fs_at _ c h)
theorem rk_pl_eq {R : Nat → Int32} {e : Int32} {c k : Nat} (h1 : k ≤ c) (h2 : ∀ j, j < k → ¬ R j = e) (h3 : k < c → R k = e) : rk_pl R e c = k :=
  rk_fs_eq h1 (fun j hj => decide_eq_false (h2 j hj)) (fun h => decide_eq_true (h3 h))
theorem rk_pl_lt {R : Nat → Int32} {e : Int32} {c k : Nat} (hk : k < c) (h : R k = e) : rk_pl R e c < c := by
  rcases Nat.lt_or_ge (rk_pl R e c) c with h1 | h1
  · exact h1
  · exact absurd h (rk_pl_no (Nat.lt_of_lt_of_le hk h1))
/-- the sum of the weights W of the first n entries of the row -/
def rk_sm (R W : Nat → Int32) : Nat → Int32
  | 0 => 0
  | n + 1 => rk_sm R W n + W (R n).toNatClampNeg
theorem rk_sm_s (R W : Nat → Int32) (n : Nat) : rk_sm R W n + W (R n).toNatClampNeg = rk_sm R W (n + 1) := rfl
/-- the first place at which rank q falls -/
def rk_fd (R F : Nat → Int32) (q : Int32) (c : Nat) : Nat := rk_fs (fun k => decide (q < rk_sm R F (k + 1))) c
theorem rk_fd_le (R F : Nat → Int32) (q : Int32) (c : Nat) : rk_fd R F q c ≤ c := rk_fs_le _ c
theorem rk_fd_eq {R F : Nat → Int32} {q : Int32} {c k : Nat} (h1 : k ≤ c) (h2 : ∀ j, j < k → ¬ q < rk_sm R F (j + 1)) (h3 : k < c → q < rk_sm R F (k + 1)) : rk_fd R F q c = k :=
  rk_fs_eq h1 (fun j hj => decide_eq_false (h2 j hj)) (fun h => decide_eq_true (h3 h))
/-- n entries more, from number c on, put at place p -/
def rk_in (R : Nat → Int32) (c p n : Nat) : Nat → Int32 := fun j => if j < p then R j else if j < p + n then nI (c + (j - p)) else if j < c + n then R (j - n) else R j
/-- their weights -/
def rk_fl (F : Nat → Int32) (c n : Nat) (w : Int32) : Nat → Int32 := fun j => if c ≤ j ∧ j < c + n then w else F j
theorem rk_in_0 (R : Nat → Int32) (c p : Nat) : rk_in R c p 0 = R := by
  funext j
  unfold rk_in
  by_cases h1 : j < p
  · rw [if_pos h1]
  · rw [if_neg h1, if_neg (by omega)]
    by_cases h2 : j < c + 0
    · rw [if_pos h2, Nat.sub_zero]
    · rw [if_neg h2]
theorem rk_in_s (R : Nat → Int32) {c p : Nat} (k : Nat) (hp : p ≤ c) : rk_in (rk_in R c p k) (c + k) (p + k) 1 = rk_in R c p (k + 1) := by
  funext j
  unfold rk_in
  by_cases h1 : j < p
  · rw [if_pos (show j < p + k by omega), if_pos h1, if_pos h1]
  · by_cases h2 : j < p + k
    · rw [if_pos h2, if_neg h1, if_pos h2, if_neg h1, if_pos (show j < p + (k + 1) by omega)]
    · by_cases h3 : j < p + k + 1
      · rw [if_neg h2, if_pos h3, if_neg h1, if_pos (show j < p + (k + 1) by omega)]
        rw [show c + k + (j - (p + k)) = c + (j - p) by omega]
      · by_cases h4 : j < c + k + 1
        · rw [if_neg h2, if_neg h3, if_pos h4, if_neg h1, if_neg (show ¬ j < p + (k + 1) by omega), if_pos (show j < c + (k + 1) by omega), if_neg (show ¬ j - 1 < p by omega), if_neg (show ¬ j - 1 < p + k by omega), if_pos (show j - 1 < c + k by omega)]
          rw [show j - 1 - k = j - (k + 1) by omega]
        · rw [if_neg h2, if_neg h3, if_neg h4, if_neg h1, if_neg h2, if_neg (show ¬ j < c + k by omega), if_neg h1, if_neg (show ¬ j < p + (k + 1) by omega), if_neg (show ¬ j < c + (k + 1) by omega)]
theorem rk_fl_0 (F : Nat → Int32) (c : Nat) (w : Int32) : rk_fl F c 0 w = F := by
  funext j
  unfold rk_fl
  rw [if_neg (by omega)]
theorem rk_fl_s (F : Nat → Int32) (c k : Nat) (w : Int32) : upd (rk_fl F c k w) (c + k) w = rk_fl F c (k + 1) w := by
  funext j
  by_cases h1 : j = c + k
  · subst h1
    rw [pk_us]
    unfold rk_fl
    rw [if_pos (by omega)]
  · rw [pk_un h1]
    unfold rk_fl
    by_cases h2 : c ≤ j ∧ j < c + k
    · rw [if_pos h2, if_pos (by omega)]
    · rw [if_neg h2, if_neg (by omega)]
theorem rk_fl_1 (F : Nat → Int32) (c : Nat) (w : Int32) : upd F c w = rk_fl F c 1 w := by
  have h := rk_fl_s F c 0 w
  rw [rk_fl_0, Nat.add_zero] at h
  exact h
theorem rk_fl_t (F : Nat → Int32) (c k : Nat) (w : Int32) : rk_fl (rk_fl F c k w) (c + k) 1 w = rk_fl F c (k + 1) w := by
  rw [← rk_fl_1, rk_fl_s]
/-- the class's way: a stretch is copied, then one entry after the other is written -/
def rk_pu (R : Nat → Int32) (c p n i : Nat) : Nat → Int32 := fun j => if p ≤ j ∧ j < p + i then nI (c + (j - p)) else va_cpy R R p (p + n) (c - p) j
theorem rk_pu_0 (R : Nat → Int32) (c p n : Nat) : va_cpy R R p (p + n) (c - p) = rk_pu R c p n 0 := by
  funext j
  unfold rk_pu
  rw [if_neg (by omega)]
theorem rk_pu_s (R : Nat → Int32) (c p n i : Nat) : upd (rk_pu R c p n i) (p + i) (nI (c + i)) = rk_pu R c p n (i + 1) := by
  funext j
  by_cases h1 : j = p + i
  · subst h1
    rw [pk_us]
    unfold rk_pu
    rw [if_pos (by omega), show c + (p + i - p) = c + i by omega]
  · rw [pk_un h1]
    unfold rk_pu
    by_cases h2 : p ≤ j ∧ j < p + i
    · rw [if_pos h2, if_pos (by omega)]
    · rw [if_neg h2, if_neg (by omega)]
theorem rk_pu_n (R : Nat → Int32) {c p : Nat} (n : Nat) (hp : p ≤ c) : rk_pu R c p n n = rk_in R c p n := by
  funext j
  unfold rk_pu rk_in
  by_cases h1 : j < p
  · rw [if_pos h1, if_neg (by omega), pk_cpy_out (by omega)]
  · by_cases h2 : j < p + n
    · rw [if_neg h1, if_pos h2, if_pos (by omega)]
    · by_cases h3 : j < c + n
      · rw [if_neg h1, if_neg h2, if_pos h3, if_neg (by omega), pk_cpy_in (by omega) (by omega), show p + (j - (p + n)) = j - n by omega]
      · rw [if_neg h1, if_neg h2, if_neg h3, if_neg (by omega), pk_cpy_out (by omega)]
/-- the reference's way: one entry, the others moved one by one from the end -/
def rk_sh (R : Nat → Int32) (c k : Nat) : Nat → Int32 := fun j => if k < j ∧ j ≤ c then R (j - 1) else R j
theorem rk_sh_c (R : Nat → Int32) (c : Nat) : rk_sh R c c = R := by
  funext j
  unfold rk_sh
  rw [if_neg (by omega)]
theorem rk_sh_r (R : Nat → Int32) (c k : Nat) : rk_sh R c (k + 1) k = R k := by
  unfold rk_sh
  rw [if_neg (by omega)]
theorem rk_sh_s (R : Nat → Int32) {c k : Nat} (h : k + 1 ≤ c) : upd (rk_sh R c (k + 1)) (k + 1) (rk_sh R c (k + 1) k) = rk_sh R c k := by
  rw [rk_sh_r]
  funext j
  by_cases h1 : j = k + 1
  · subst h1
    rw [pk_us]
    unfold rk_sh
    rw [if_pos (by omega), Nat.add_sub_cancel]
  · rw [pk_un h1]
    unfold rk_sh
    by_cases h2 : k + 1 < j ∧ j ≤ c
    · rw [if_pos h2, if_pos (by omega)]
    · rw [if_neg h2, if_neg (by omega)]
theorem rk_sh_p (R : Nat → Int32) {c p : Nat} (h : p ≤ c) : upd (rk_sh R c p) p (nI c) = rk_in R c p 1 := by
  funext j
  unfold rk_in
  by_cases h1 : j = p
  · subst h1
    rw [pk_us, if_neg (by omega), if_pos (by omega), Nat.sub_self, Nat.add_zero]
  · rw [pk_un h1]
    unfold rk_sh
    by_cases h2 : j < p
    · rw [if_pos h2, if_neg (by omega)]
    · rw [if_neg h2, if_neg (show ¬ j < p + 1 by omega)]
      by_cases h3 : j < c + 1
      · rw [if_pos h3, if_pos (show p < j ∧ j ≤ c by omega)]
      · rw [if_neg h3, if_neg (show ¬ (p < j ∧ j ≤ c) by omega)]
/-- the row holds each of the c entries -/
def rk_ok (R : Nat → Int32) (c : Nat) : Prop := c ≤ 4000 ∧ (∀ k, k < c → ∃ e, e < c ∧ R k = nI e) ∧ ∀ e, e < c → ∃ k, k < c ∧ R k = nI e
theorem rk_ok_0 (R : Nat → Int32) : rk_ok R 0 := ⟨Nat.zero_le _, fun k h => absurd h (Nat.not_lt_zero k), fun e h => absurd h (Nat.not_lt_zero e)⟩
theorem rk_ok_in {R : Nat → Int32} {c p n : Nat} (h : rk_ok R c) (hp : p ≤ c) (hn : c + n ≤ 4000) : rk_ok (rk_in R c p n) (c + n) := by
  obtain ⟨h0, h1, h2⟩ := h
  refine ⟨hn, fun k hk => ?_, fun e he => ?_⟩
  · unfold rk_in
    by_cases g1 : k < p
    · rw [if_pos g1]
      obtain ⟨e, a, b⟩ := h1 k (by omega)
      exact ⟨e, by omega, b⟩
    · rw [if_neg g1]
      by_cases g2 : k < p + n
      · rw [if_pos g2]
        exact ⟨c + (k - p), by omega, rfl⟩
      · rw [if_neg g2, if_pos hk]
        obtain ⟨e, a, b⟩ := h1 (k - n) (by omega)
        exact ⟨e, by omega, b⟩
  · by_cases g1 : e < c
    · obtain ⟨k, a, b⟩ := h2 e g1
      by_cases g2 : k < p
      · refine ⟨k, by omega, ?_⟩
        unfold rk_in
        rw [if_pos g2]
        exact b
      · refine ⟨k + n, by omega, ?_⟩
        unfold rk_in
        rw [if_neg (by omega), if_neg (by omega), if_pos (by omega), Nat.add_sub_cancel]
        exact b
    · refine ⟨p + (e - c), by omega, ?_⟩
      unfold rk_in
      rw [if_neg (by omega), if_pos (by omega), show c + (p + (e - c) - p) = e by omega]
theorem rk_pl_in {R : Nat → Int32} {c j : Nat} (h : rk_ok R c) (hj : j < c) : rk_pl R (nI j) c < c := by
  obtain ⟨k, a, b⟩ := h.2.2 j hj
  exact rk_pl_lt a b
theorem rk_pl_m1 {R : Nat → Int32} {c : Nat} (h : rk_ok R c) : rk_pl R (-1) c = c := by
  refine rk_pl_eq (Nat.le_refl _) (fun j hj => ?_) (fun h => absurd h (Nat.lt_irrefl _))
  obtain ⟨e, a, b⟩ := h.2.1 j hj
  have h4 := h.1
  rw [b]
  intro q
  have q1 : (nI e).toInt = (-1 : Int32).toInt := by rw [q]
  rw [nI_toInt (by omega)] at q1
  have q2 : (-1 : Int32).toInt = -1 := by decide
  omega
/-- numbers -/
theorem rk_c31 {c : Nat} (h : c ≤ 4000) : c < 2 ^ 31 := by omega
theorem rk_cl (n : Nat) (h : n ≤ 4000) : (nI n).toNatClampNeg = n := nI_clamp (by omega)
theorem rk_nn {x : Int32} (h : 0 ≤ x) : ¬ x < 0 := fun q => by
  have a := Int32.le_iff_toInt_le.mp h
  have b := Int32.lt_iff_toInt_lt.mp q
  omega
theorem rk_le {x : Int32} (h : ¬ x < 0) : 0 ≤ x := Int32.le_iff_toInt_le.mpr (by
  have b : ¬ x.toInt < (0 : Int32).toInt := fun q => h (Int32.lt_iff_toInt_lt.mpr q)
  omega)
/-- a weight; an entry that there is -/
abbrev rk_W (w : Int32) : Prop := ¬ w < 0 ∧ ¬ 1000 < w
abbrev rk_E (e : Int32) (c : Nat) : Prop := ¬ e < 0 ∧ e < nI c
/-- an entry that there is -/
theorem rk_ent {e : Int32} {c : Nat} (hc : c ≤ 4000) (h0 : ¬ e < 0) (h1 : e < nI c) : ∃ j, j < c ∧ e = nI j := by
  obtain ⟨j, a, rfl⟩ := nI_of h0
  exact ⟨j, (nI_ltI a (by omega)).mp h1, rfl⟩
theorem rk_entc {e : Int32} {c : Nat} (hc : c ≤ 4000) (h : rk_E e c) : e.toNatClampNeg < c ∧ e = nI e.toNatClampNeg := by
  obtain ⟨j, a, rfl⟩ := rk_ent hc h.1 h.2
  rw [nI_clamp (n := j) (by omega)]
  exact ⟨a, rfl⟩
/-- n entries at once -/
theorem rk_num {n : Int32} (h0 : ¬ n < 1) (h1 : n ≤ 200) : 1 ≤ n.toNatClampNeg ∧ n.toNatClampNeg ≤ 200 ∧ n = nI n.toNatClampNeg := by
  have a : ¬ n.toInt < (1 : Int32).toInt := fun q => h0 (Int32.lt_iff_toInt_lt.mpr q)
  have a1 : (1 : Int32).toInt = 1 := by decide
  have b : n.toInt ≤ (200 : Int32).toInt := Int32.le_iff_toInt_le.mp h1
  have b1 : (200 : Int32).toInt = 200 := by decide
  have z : (0 : Int32).toInt = 0 := by decide
  obtain ⟨j, hj, rfl⟩ := nI_of (x := n) (fun q => by have := Int32.lt_iff_toInt_lt.mp q; omega)
  rw [nI_toInt hj] at a b
  rw [nI_clamp hj]
  exact ⟨by omega, by omega, rfl⟩
theorem rk_4000 : (4000 : Int32) = nI 4000 := by decide
theorem rk_1 : (1 : Int32) = nI 1 := by decide
theorem rk_0 : (0 : Int32) = nI 0 := by decide
/-- the place behind one -/
def rk_pb (R : Nat → Int32) (e : Int32) (c : Nat) : Nat := if e = -1 then 0 else rk_pl R e c + 1
/-- what a call throws: 1 IllegalArgumentException, 2 NoSuchElementException, 3 IllegalStateException, 0 nothing -/
def rk_kB (e n w v : Int32) (c : Nat) : Nat := if (¬ n < 1 ∧ n ≤ 200) ∧ rk_W w ∧ rk_W v then (if e = -1 ∨ rk_E e c then (if c + n.toNatClampNeg ≤ 4000 then 0 else 3) else 2) else 1
def rk_kF (e w v : Int32) (c : Nat) : Nat := if rk_W w ∧ rk_W v then (if rk_E e c then (if c + 1 ≤ 4000 then 0 else 3) else 2) else 1
def rk_kW (e w v : Int32) (c : Nat) : Nat := if rk_W w ∧ rk_W v then (if rk_E e c then 0 else 2) else 1
def rk_kD (R F : Nat → Int32) (q : Int32) (c : Nat) : Nat := if ¬ q < 0 ∧ rk_fd R F q c < c then 0 else 2
def rk_kS (e z : Int32) (c : Nat) : Nat := if z = 0 ∨ z = 1 then (if e = -1 ∨ rk_E e c then 0 else 2) else 1
def rk_kN (R : Nat → Int32) (e : Int32) (c : Nat) : Nat := if (e = -1 ∨ rk_E e c) ∧ rk_pb R e c < c then 0 else 2
def rk_kP (e : Int32) (c : Nat) : Nat := if rk_E e c then 0 else 2
theorem rk_pb_m (R : Nat → Int32) (c : Nat) : rk_pb R (-1) c = 0 := if_pos rfl
theorem rk_pb_n {R : Nat → Int32} {e : Int32} {c : Nat} (h : ¬ e = -1) : rk_pb R e c = rk_pl R e c + 1 := if_neg h
theorem rk_m1_neg : (-1 : Int32) < 0 := by decide
theorem rk_E_m1 {c : Nat} : ¬ rk_E (-1) c := fun h => h.1 rk_m1_neg
theorem rk_ne_m1 {e : Int32} (h : ¬ e < 0) : ¬ e = -1 := fun q => h (by rw [q]; exact rk_m1_neg)
theorem rk_pb_le {R : Nat → Int32} {e : Int32} {c : Nat} (hR : rk_ok R c) (h : e = -1 ∨ rk_E e c) : rk_pb R e c ≤ c := by
  rcases h with h | h
  · subst h
    rw [rk_pb_m]
    exact Nat.zero_le _
  · obtain ⟨j, hj, rfl⟩ := rk_ent hR.1 h.1 h.2
    rw [rk_pb_n (rk_ne_m1 h.1)]
    exact rk_pl_in hR hj
theorem rk_kB_1 {e n w v : Int32} {c : Nat} (h : ¬ ((¬ n < 1 ∧ n ≤ 200) ∧ rk_W w ∧ rk_W v)) : rk_kB e n w v c = 1 := by unfold rk_kB; rw [if_neg h]
theorem rk_kB_2 {e n w v : Int32} {c : Nat} (h : (¬ n < 1 ∧ n ≤ 200) ∧ rk_W w ∧ rk_W v) (h2 : ¬ (e = -1 ∨ rk_E e c)) : rk_kB e n w v c = 2 := by unfold rk_kB; rw [if_pos h, if_neg h2]
theorem rk_kB_3 {e n w v : Int32} {c : Nat} (h : (¬ n < 1 ∧ n ≤ 200) ∧ rk_W w ∧ rk_W v) (h2 : e = -1 ∨ rk_E e c) (h3 : ¬ c + n.toNatClampNeg ≤ 4000) : rk_kB e n w v c = 3 := by unfold rk_kB; rw [if_pos h, if_pos h2, if_neg h3]
theorem rk_kB_0 {e n w v : Int32} {c : Nat} (h : (¬ n < 1 ∧ n ≤ 200) ∧ rk_W w ∧ rk_W v) (h2 : e = -1 ∨ rk_E e c) (h3 : c + n.toNatClampNeg ≤ 4000) : rk_kB e n w v c = 0 := by unfold rk_kB; rw [if_pos h, if_pos h2, if_pos h3]
theorem rk_kF_1 {e w v : Int32} {c : Nat} (h : ¬ (rk_W w ∧ rk_W v)) : rk_kF e w v c = 1 := by unfold rk_kF; rw [if_neg h]
theorem rk_kF_2 {e w v : Int32} {c : Nat} (h : rk_W w ∧ rk_W v) (h2 : ¬ rk_E e c) : rk_kF e w v c = 2 := by unfold rk_kF; rw [if_pos h, if_neg h2]
theorem rk_kF_3 {e w v : Int32} {c : Nat} (h : rk_W w ∧ rk_W v) (h2 : rk_E e c) (h3 : ¬ c + 1 ≤ 4000) : rk_kF e w v c = 3 := by unfold rk_kF; rw [if_pos h, if_pos h2, if_neg h3]
theorem rk_kF_0 {e w v : Int32} {c : Nat} (h : rk_W w ∧ rk_W v) (h2 : rk_E e c) (h3 : c + 1 ≤ 4000) : rk_kF e w v c = 0 := by unfold rk_kF; rw [if_pos h, if_pos h2, if_pos h3]
theorem rk_kW_1 {e w v : Int32} {c : Nat} (h : ¬ (rk_W w ∧ rk_W v)) : rk_kW e w v c = 1 := by unfold rk_kW; rw [if_neg h]
theorem rk_kW_2 {e w v : Int32} {c : Nat} (h : rk_W w ∧ rk_W v) (h2 : ¬ rk_E e c) : rk_kW e w v c = 2 := by unfold rk_kW; rw [if_pos h, if_neg h2]
theorem rk_kW_0 {e w v : Int32} {c : Nat} (h : rk_W w ∧ rk_W v) (h2 : rk_E e c) : rk_kW e w v c = 0 := by unfold rk_kW; rw [if_pos h, if_pos h2]
theorem rk_kD_2 {R F : Nat → Int32} {q : Int32} {c : Nat} (h : ¬ (¬ q < 0 ∧ rk_fd R F q c < c)) : rk_kD R F q c = 2 := by unfold rk_kD; rw [if_neg h]
theorem rk_kD_0 {R F : Nat → Int32} {q : Int32} {c : Nat} (h : ¬ q < 0 ∧ rk_fd R F q c < c) : rk_kD R F q c = 0 := by unfold rk_kD; rw [if_pos h]
theorem rk_kS_1 {e z : Int32} {c : Nat} (h : ¬ (z = 0 ∨ z = 1)) : rk_kS e z c = 1 := by unfold rk_kS; rw [if_neg h]
theorem rk_kS_2 {e z : Int32} {c : Nat} (h : z = 0 ∨ z = 1) (h2 : ¬ (e = -1 ∨ rk_E e c)) : rk_kS e z c = 2 := by unfold rk_kS; rw [if_pos h, if_neg h2]
theorem rk_kS_0 {e z : Int32} {c : Nat} (h : z = 0 ∨ z = 1) (h2 : e = -1 ∨ rk_E e c) : rk_kS e z c = 0 := by unfold rk_kS; rw [if_pos h, if_pos h2]
theorem rk_kN_2 {R : Nat → Int32} {e : Int32} {c : Nat} (h : ¬ ((e = -1 ∨ rk_E e c) ∧ rk_pb R e c < c)) : rk_kN R e c = 2 := by unfold rk_kN; rw [if_neg h]
theorem rk_kN_0 {R : Nat → Int32} {e : Int32} {c : Nat} (h : (e = -1 ∨ rk_E e c) ∧ rk_pb R e c < c) : rk_kN R e c = 0 := by unfold rk_kN; rw [if_pos h]
theorem rk_kP_2 {e : Int32} {c : Nat} (h : ¬ rk_E e c) : rk_kP e c = 2 := by unfold rk_kP; rw [if_neg h]
theorem rk_kP_0 {e : Int32} {c : Nat} (h : rk_E e c) : rk_kP e c = 0 := by unfold rk_kP; rw [if_pos h]
theorem rk_pl_E {R : Nat → Int32} {e : Int32} {c : Nat} (hR : rk_ok R c) (h : rk_E e c) : rk_pl R e c < c := by
  obtain ⟨j, hj, rfl⟩ := rk_ent hR.1 h.1 h.2
  exact rk_pl_in hR hj
theorem rk_end {R : Nat → Int32} {e : Int32} {c : Nat} (hR : rk_ok R c) : (if e = -1 then c else rk_pl R e c) = rk_pl R e c := by
  by_cases h : e = -1
  · rw [if_pos h, h, rk_pl_m1 hR]
  · rw [if_neg h]
theorem rk_kB_r (e n w v : Int32) (c : Nat) : rk_kB e n w v c = 0 ∨ rk_kB e n w v c = 1 ∨ rk_kB e n w v c = 2 ∨ rk_kB e n w v c = 3 := by
  by_cases h1 : (¬ n < 1 ∧ n ≤ 200) ∧ rk_W w ∧ rk_W v
  · by_cases h2 : e = -1 ∨ rk_E e c
    · by_cases h3 : c + n.toNatClampNeg ≤ 4000
      · exact Or.inl (rk_kB_0 h1 h2 h3)
      · exact Or.inr (Or.inr (Or.inr (rk_kB_3 h1 h2 h3)))
    · exact Or.inr (Or.inr (Or.inl (rk_kB_2 h1 h2)))
  · exact Or.inr (Or.inl (rk_kB_1 h1))
theorem rk_kF_r (e w v : Int32) (c : Nat) : rk_kF e w v c = 0 ∨ rk_kF e w v c = 1 ∨ rk_kF e w v c = 2 ∨ rk_kF e w v c = 3 := by
  by_cases h1 : rk_W w ∧ rk_W v
  · by_cases h2 : rk_E e c
    · by_cases h3 : c + 1 ≤ 4000
      · exact Or.inl (rk_kF_0 h1 h2 h3)
      · exact Or.inr (Or.inr (Or.inr (rk_kF_3 h1 h2 h3)))
    · exact Or.inr (Or.inr (Or.inl (rk_kF_2 h1 h2)))
  · exact Or.inr (Or.inl (rk_kF_1 h1))
theorem rk_kW_r (e w v : Int32) (c : Nat) : rk_kW e w v c = 0 ∨ rk_kW e w v c = 1 ∨ rk_kW e w v c = 2 := by
  by_cases h1 : rk_W w ∧ rk_W v
  · by_cases h2 : rk_E e c
    · exact Or.inl (rk_kW_0 h1 h2)
    · exact Or.inr (Or.inr (rk_kW_2 h1 h2))
  · exact Or.inr (Or.inl (rk_kW_1 h1))
theorem rk_kS_r (e z : Int32) (c : Nat) : rk_kS e z c = 0 ∨ rk_kS e z c = 1 ∨ rk_kS e z c = 2 := by
  by_cases h1 : z = 0 ∨ z = 1
  · by_cases h2 : e = -1 ∨ rk_E e c
    · exact Or.inl (rk_kS_0 h1 h2)
    · exact Or.inr (Or.inr (rk_kS_2 h1 h2))
  · exact Or.inr (Or.inl (rk_kS_1 h1))
theorem rk_kD_r (R F : Nat → Int32) (q : Int32) (c : Nat) : rk_kD R F q c = 0 ∨ rk_kD R F q c = 2 := by
  by_cases h : ¬ q < 0 ∧ rk_fd R F q c < c
  · exact Or.inl (rk_kD_0 h)
  · exact Or.inr (rk_kD_2 h)
theorem rk_kN_r (R : Nat → Int32) (e : Int32) (c : Nat) : rk_kN R e c = 0 ∨ rk_kN R e c = 2 := by
  by_cases h : (e = -1 ∨ rk_E e c) ∧ rk_pb R e c < c
  · exact Or.inl (rk_kN_0 h)
  · exact Or.inr (rk_kN_2 h)
theorem rk_kP_r (e : Int32) (c : Nat) : rk_kP e c = 0 ∨ rk_kP e c = 2 := by
  by_cases h : rk_E e c
  · exact Or.inl (rk_kP_0 h)
  · exact Or.inr (rk_kP_2 h)
theorem rk_kB_i {e n w v : Int32} {c : Nat} (h : rk_kB e n w v c = 0) : (e = -1 ∨ rk_E e c) ∧ c + n.toNatClampNeg ≤ 4000 := by
  by_cases h1 : (¬ n < 1 ∧ n ≤ 200) ∧ rk_W w ∧ rk_W v
  · by_cases h2 : e = -1 ∨ rk_E e c
    · by_cases h3 : c + n.toNatClampNeg ≤ 4000
      · exact ⟨h2, h3⟩
      · rw [rk_kB_3 h1 h2 h3] at h
        cases h
    · rw [rk_kB_2 h1 h2] at h
      cases h
  · rw [rk_kB_1 h1] at h
    cases h
theorem rk_kF_i {e w v : Int32} {c : Nat} (h : rk_kF e w v c = 0) : c + 1 ≤ 4000 := by
  by_cases h1 : rk_W w ∧ rk_W v
  · by_cases h2 : rk_E e c
    · by_cases h3 : c + 1 ≤ 4000
      · exact h3
      · rw [rk_kF_3 h1 h2 h3] at h
        cases h
    · rw [rk_kF_2 h1 h2] at h
      cases h
  · rw [rk_kF_1 h1] at h
    cases h
/-- a number that was thrown isn't 0 -/
theorem rk_nz {k : Nat} (h : k = 0 ∨ k = 1 ∨ k = 2 ∨ k = 3) (h0 : k ≠ 0) : ¬ nI k = 0 := nI_ne0 (by omega) (by omega)
theorem rk_nz2 {k : Nat} (h : k = 0 ∨ k = 1 ∨ k = 2) (h0 : k ≠ 0) : ¬ nI k = 0 := nI_ne0 (by omega) (by omega)
/-- the law's loop goes on while five numbers are left -/
theorem rk_five {L x : Nat} (hL : L ≤ 2560) (hx : x ≤ 2560) (h : ¬ nI L - 5 < nI x) : x + 5 ≤ L := by
  have a : ¬ (nI L - 5).toInt < (nI x).toInt := fun q => h (Int32.lt_iff_toInt_lt.mpr q)
  have b : (nI L - nI 5).toInt = (L : Int) - (5 : Nat) := pk_sub_toInt (by omega) (by omega)
  have b2 : (nI L - 5).toInt = (L : Int) - (5 : Nat) := b
  rw [b2, nI_toInt (by omega)] at a
  omega
