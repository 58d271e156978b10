/-! CellSet: cell k, its rows cell k + 1 -/
def isCS (k : Nat) : Prop := kd k = .inl (0, [k + 3]) ∧ kd (k + 1) = .inr (0, 16, 0, 0)
def exB : Nat → (Nat → Bool) → Bool
  | 0, _ => false
  | n + 1, p => exB n p || p n
theorem exB_t {p : Nat → Bool} : ∀ {n i : Nat}, i < n → p i = true → exB n p = true
  | 0, i, h, _ => absurd h (Nat.not_lt_zero i)
  | n + 1, i, h, hp => by
    rcases Nat.lt_or_ge i n with q | q
    · simp [exB, exB_t q hp]
    · have : i = n := by omega
      subst this
      simp [exB, hp]
theorem exB_f {p : Nat → Bool} : ∀ {n : Nat}, (∀ i, i < n → p i = false) → exB n p = false
  | 0, _ => rfl
  | n + 1, h => by
    have a := exB_f (p := p) (n := n) (fun i hi => h i (by omega))
    have b := h n (by omega)
    simp [exB, a, b]
theorem exB_iff {p : Nat → Bool} {n : Nat} : exB n p = true ↔ ∃ i, i < n ∧ p i = true := by
  constructor
  · intro h
    by_cases q : ∃ i, i < n ∧ p i = true
    · exact q
    · rw [exB_f (fun i hi => by
        cases hp : p i
        · rfl
        · exact absurd ⟨i, hi, hp⟩ q)] at h
      cases h
  · rintro ⟨i, hi, hp⟩
    exact exB_t hi hp
theorem rows_and_ex {S T : Nat → Bool} {y : Nat} (h : ¬ rowsOf S y &&& rowsOf T y = 0) : ∃ x, x < 16 ∧ (S (16 * y + x) && T (16 * y + x)) = true := by
  by_cases q : ∃ x, x < 16 ∧ (S (16 * y + x) && T (16 * y + x)) = true
  · exact q
  · refine absurd ((rows_and0 S T y).mpr (fun x hx => ?_)) h
    cases e : (S (16 * y + x) && T (16 * y + x))
    · rfl
    · exact absurd ⟨x, hx, e⟩ q
theorem rows_sm (S : Nat → Bool) (y : Nat) : bsum (fun x => S (16 * y + x)) 16 < 65536 := bsum_lt _ 16
theorem rows_ct (S : Nat → Bool) (i : Nat) : fb_ct S (16 * i) + fb_ct (fun j => (bsum (fun x => S (16 * i + x)) 16).testBit j) 16 = fb_ct S (16 * (i + 1)) := by
  rw [show 16 * (i + 1) = 16 * i + 16 by omega, fb_ct_split]
  congr 1
  exact fb_ct_cong (fun k hk => by rw [bsum_bit]; simp [hk])
/-- how many cells a set has -/
def csz (S : Nat → Bool) : Nat := fb_ct S 256
theorem wA_rows {M : Mm} {k : Nat} {S T : Nat → Bool} (h : ∀ c, S c = T c) : wA M k (rowsOf S) = wA M k (rowsOf T) := by rw [show S = T from funext h]
/-- the cells of the rectangle with two corners -/
def rect (a b c : Nat) : Bool := decide (min (a % 16) (b % 16) ≤ c % 16) && decide (c % 16 ≤ max (a % 16) (b % 16)) && decide (min (a / 16) (b / 16) ≤ c / 16) && decide (c / 16 ≤ max (a / 16) (b / 16))
theorem rect_out {a b c : Nat} (h : max (a / 16) (b / 16) < c / 16) : rect a b c = false := by
  simp only [rect]
  simp
  intros
  omega
theorem rect_out2 {a b c : Nat} (h : c / 16 < min (a / 16) (b / 16)) : rect a b c = false := by
  simp only [rect]
  simp
  intros
  omega
theorem mask_bits : ∀ x, x < 16 → ∀ y, y < 16 → x ≤ y → ∀ i, i < 32 → bt ((nI 1 <<< (nI (y + 1) &&& 31)) - (nI 1 <<< (nI x &&& 31))) i = (decide (x ≤ i) && decide (i ≤ y)) := by decide +kernel
theorem rect_row {a b y : Nat} (ha : a < 256) (hb : b < 256) (h1 : min (a / 16) (b / 16) ≤ y) (h2 : y ≤ max (a / 16) (b / 16)) : rowsOf (rect a b) y = (nI 1 <<< (nI (max (a % 16) (b % 16) + 1) &&& 31)) - (nI 1 <<< (nI (min (a % 16) (b % 16)) &&& 31)) := by
  apply bt_ext
  intro i hi
  rw [bt_rows _ _ _ hi, mask_bits _ (by omega) _ (by omega) (by omega) i hi]
  by_cases q : i < 16
  · have e1 : (16 * y + i) % 16 = i := by omega
    have e2 : (16 * y + i) / 16 = y := by omega
    simp only [rect, e1, e2, decide_eq_true h1, decide_eq_true h2, decide_eq_true q, Bool.and_true, Bool.true_and]
  · have : ¬ i ≤ max (a % 16) (b % 16) := by omega
    simp [q, this]
theorem rect_rows {M : Mm} {k a b y : Nat} (ha : a < 256) (hb : b < 256) (hy : y = max (a / 16) (b / 16) + 1) : wA M (k + 1) (fun z => if min (a / 16) (b / 16) ≤ z ∧ z < y then (nI 1 <<< (nI (max (a % 16) (b % 16) + 1) &&& 31)) - (nI 1 <<< (nI (min (a % 16) (b % 16)) &&& 31)) else rowsOf (fun _ => false) z) = wA M (k + 1) (rowsOf (rect a b)) := by
  congr 1
  funext z
  by_cases q : min (a / 16) (b / 16) ≤ z ∧ z < y
  · rw [if_pos q, rect_row ha hb q.1 (by omega)]
  · rw [if_neg q]
    refine rows_cong (fun x hx => ?_)
    have e : (16 * z + x) / 16 = z := by omega
    by_cases w : z < min (a / 16) (b / 16)
    · rw [rect_out2 (by omega)]
    · rw [rect_out (by omega)]
theorem rect_step {lo y : Nat} {v : Int32} {g : Nat → Int32} (h : lo ≤ y) : upd (fun z => if lo ≤ z ∧ z < y then v else g z) y v = (fun z => if lo ≤ z ∧ z < y + 1 then v else g z) := by
  funext z
  by_cases q : z = y
  · subst q
    simp [upd, h]
  · simp only [upd, if_neg q]
    by_cases w : lo ≤ z ∧ z < y
    · rw [if_pos w, if_pos ⟨w.1, by omega⟩]
    · rw [if_neg w, if_neg (by omega)]
theorem rect_0 (M : Mm) (k lo : Nat) (v : Int32) : wA M (k + 1) (rowsOf (fun _ => false)) = wA M (k + 1) (fun z => if lo ≤ z ∧ z < lo then v else rowsOf (fun _ => false) z) := by
  congr 1
  funext z
  rw [if_neg (by omega)]
set_option maxRecDepth 100000 in
set_option maxHeartbeats 1000000 in
theorem c_X0_becomeEmpty {l : Launch} {E : Ee} {M : Mm} {k : Nat} (hk : isCS k) : CtV l E yX0_becomeEmpty (.code yX0_becomeEmpty cX0_becomeEmpty 2 none :: gl) ({ frames := 0, cells := 0, slots := 0, locals := 0 } : Room) M [.ref (E.2.2 k)] 0 0 (fun M2 => M2 = wA M (k + 1) (rowsOf (fun _ => false))) := by
  refine ctV_of (L0 := [some (.ref (E.2.2 k)), none]) (by decide) rfl (Nat.le_of_ble_eq_true rfl) rfl ?_
  intro Z hl hE hnl F ret
  subst hE
  have in_X0 : ∀ w ∈ u_ws RX0 TX0 1, w ∈ (.code yX0_becomeEmpty cX0_becomeEmpty 2 none :: gl) := fun w h => List.mem_cons_of_mem _ (lay_X0 w h)
  have g9 : FG Z 9 0 0 := fg_mk F (C := RX0) (T := TX0) (N := 1) in_X0 rfl (by decide) rfl (List.mem_cons_of_mem _ fk_X0_9)
  obtain ⟨h0, h1⟩ := id hk
  have lo : ∀ i, i ≤ 16 → JJ Z (0, 0) (wA M (k + 1) (fl i (fun _ => nI 0) (M.1 (k + 1)))) 2 [some (.ref ((zE Z).2.2 k)), some (.int (nI i))] [] := by
    refine jj_loop (16) ?_ ?_
    · refine jj_iload_n F dX0_becomeEmpty_2 rfl ?_
      refine jj_bipush F (v := nI 16) dX0_becomeEmpty_3 (by decide) ?_
      refine jj_icmp_ge F (tgt := 21) dX0_becomeEmpty_5 (by decide) (fun _ => ?_) (fun h9 => absurd (nI_le (by omega) (by omega)) h9)
      refine jj_eqv (meq_fl h1) ?_
      rw [rows_0]
      exact ret _ _ _ dX0_becomeEmpty_21 rfl
    · intro i hi ih
      refine jj_iload_n F dX0_becomeEmpty_2 rfl ?_
      refine jj_bipush F (v := nI 16) dX0_becomeEmpty_3 (by decide) ?_
      refine jj_icmp_ge F (tgt := 21) dX0_becomeEmpty_5 (by decide) (fun h9 => absurd h9 (nI_ge (by omega) (by omega))) (fun _ => ?_)
      refine jj_aload_n F dX0_becomeEmpty_8 rfl ?_
      refine jj_getr F g9 (by assumption) (by rfl) dX0_becomeEmpty_9 ?_
      refine jj_iload_n F dX0_becomeEmpty_12 rfl ?_
      refine jj_iconst F (v := nI 0) dX0_becomeEmpty_13 (by decide) ?_
      refine jj_iast F (by assumption) rfl (by omega) dX0_becomeEmpty_14 ?_
      refine jj_iinc F dX0_becomeEmpty_15 rfl (by first | exact iinc1 _ | rfl) (by rw [hnl]; decide) ?_
      dsimp only [lq_st, lq_clr, lq_no]
      refine jj_goto F (tgt := 2) dX0_becomeEmpty_18 (by decide) ?_
      rw [fl_put rfl]
      exact ih
  refine jj_iconst F (v := nI 0) dX0_becomeEmpty_0 (by decide) ?_
  refine jj_istore_n F dX0_becomeEmpty_1 (by rw [hnl]; decide) ?_
  dsimp only [lq_st, lq_clr, lq_no]
  refine jj_eqM (fl_0 M (k + 1) (fun _ => nI 0)) ?_
  exact lo 0 (by omega)
set_option maxRecDepth 100000 in
set_option maxHeartbeats 1000000 in
theorem c_X0_becomeCopy {l : Launch} {E : Ee} {M : Mm} {k j : Nat} (hk : isCS k) (hj : isCS j) (hne : j + 1 ≠ k + 1) : CtV l E yX0_becomeCopy (.code yX0_becomeCopy cX0_becomeCopy 3 none :: gl) ({ frames := 0, cells := 0, slots := 0, locals := 0 } : Room) M [.ref (E.2.2 k), .ref (E.2.2 j)] 0 0 (fun M2 => M2 = wA M (k + 1) (M.1 (j + 1))) := by
  refine ctV_of (L0 := [some (.ref (E.2.2 k)), some (.ref (E.2.2 j)), none]) (by decide) rfl (Nat.le_of_ble_eq_true rfl) rfl ?_
  intro Z hl hE hnl F ret
  subst hE
  have in_X0 : ∀ w ∈ u_ws RX0 TX0 1, w ∈ (.code yX0_becomeCopy cX0_becomeCopy 3 none :: gl) := fun w h => List.mem_cons_of_mem _ (lay_X0 w h)
  have g9 : FG Z 9 0 0 := fg_mk F (C := RX0) (T := TX0) (N := 1) in_X0 rfl (by decide) rfl (List.mem_cons_of_mem _ fk_X0_9)
  obtain ⟨h0, h1⟩ := id hk
  obtain ⟨j0, j1⟩ := id hj
  have lo : ∀ i, i ≤ 16 → JJ Z (0, 0) (wA M (k + 1) (fl i (M.1 (j + 1)) (M.1 (k + 1)))) 2 [some (.ref ((zE Z).2.2 k)), some (.ref ((zE Z).2.2 j)), some (.int (nI i))] [] := by
    refine jj_loop (16) ?_ ?_
    · refine jj_iload_n F dX0_becomeCopy_2 rfl ?_
      refine jj_bipush F (v := nI 16) dX0_becomeCopy_3 (by decide) ?_
      refine jj_icmp_ge F (tgt := 26) dX0_becomeCopy_5 (by decide) (fun _ => ?_) (fun h9 => absurd (nI_le (by omega) (by omega)) h9)
      refine jj_eqv (meq_fl h1) ?_
      exact ret _ _ _ dX0_becomeCopy_26 rfl
    · intro i hi ih
      refine jj_iload_n F dX0_becomeCopy_2 rfl ?_
      refine jj_bipush F (v := nI 16) dX0_becomeCopy_3 (by decide) ?_
      refine jj_icmp_ge F (tgt := 26) dX0_becomeCopy_5 (by decide) (fun h9 => absurd h9 (nI_ge (by omega) (by omega))) (fun _ => ?_)
      refine jj_aload_n F dX0_becomeCopy_8 rfl ?_
      refine jj_getr F g9 (by assumption) (by rfl) dX0_becomeCopy_9 ?_
      refine jj_iload_n F dX0_becomeCopy_12 rfl ?_
      refine jj_aload_n F dX0_becomeCopy_13 rfl ?_
      refine jj_getr F g9 (by assumption) (by rfl) dX0_becomeCopy_14 ?_
      refine jj_iload_n F dX0_becomeCopy_17 rfl ?_
      refine jj_iald F (by assumption) rfl (by omega) dX0_becomeCopy_18 ?_
      refine jj_iast F (by assumption) rfl (by omega) dX0_becomeCopy_19 ?_
      refine jj_iinc F dX0_becomeCopy_20 rfl (by first | exact iinc1 _ | rfl) (by rw [hnl]; decide) ?_
      dsimp only [lq_st, lq_clr, lq_no]
      refine jj_goto F (tgt := 2) dX0_becomeCopy_23 (by decide) ?_
      rw [fl_put (by rw [wA_n hne])]
      exact ih
  refine jj_iconst F (v := nI 0) dX0_becomeCopy_0 (by decide) ?_
  refine jj_istore_n F dX0_becomeCopy_1 (by rw [hnl]; decide) ?_
  dsimp only [lq_st, lq_clr, lq_no]
  refine jj_eqM (fl_0 M (k + 1) (M.1 (j + 1))) ?_
  exact lo 0 (by omega)
set_option maxRecDepth 100000 in
set_option maxHeartbeats 1000000 in
theorem c_X0_rowOf {l : Launch} {E : Ee} {M : Mm} {c : Nat} (hc : c < 256) : CtI l E yX0_rowOf (.code yX0_rowOf cX0_rowOf 1 (some .int) :: gl) ({ frames := 0, cells := 0, slots := 0, locals := 0 } : Room) M [.int (nI c)] 0 0 (fun r M2 => r = nI (c / 16) ∧ M2 = M) := by
  refine ctI_of (L0 := [some (.int (nI c))]) (by decide) rfl (Nat.le_of_ble_eq_true rfl) rfl ?_
  intro Z hl hE hnl F ret
  subst hE
  refine jj_iload_n F dX0_rowOf_0 rfl ?_
  refine jj_iconst F (v := nI 4) dX0_rowOf_1 (by decide) ?_
  refine jj_ishr F dX0_rowOf_2 ?_
  refine jj_bipush F (v := nI 15) dX0_rowOf_3 (by decide) ?_
  refine jj_iand F dX0_rowOf_5 ?_
  refine ret _ _ _ _ dX0_rowOf_6 (by first | rfl | exact nar_z (by first | exact Or.inl rfl | exact Or.inr rfl | assumption)) ?_
  exact ⟨ix_row hc, rfl⟩
set_option maxRecDepth 100000 in
set_option maxHeartbeats 1000000 in
theorem c_X0_columnOf {l : Launch} {E : Ee} {M : Mm} {c : Nat} (hc : c < 256) : CtI l E yX0_columnOf (.code yX0_columnOf cX0_columnOf 1 (some .int) :: gl) ({ frames := 0, cells := 0, slots := 0, locals := 0 } : Room) M [.int (nI c)] 0 0 (fun r M2 => r = nI (c % 16) ∧ M2 = M) := by
  refine ctI_of (L0 := [some (.int (nI c))]) (by decide) rfl (Nat.le_of_ble_eq_true rfl) rfl ?_
  intro Z hl hE hnl F ret
  subst hE
  refine jj_iload_n F dX0_columnOf_0 rfl ?_
  refine jj_bipush F (v := nI 15) dX0_columnOf_1 (by decide) ?_
  refine jj_iand F dX0_columnOf_3 ?_
  refine ret _ _ _ _ dX0_columnOf_4 (by first | rfl | exact nar_z (by first | exact Or.inl rfl | exact Or.inr rfl | assumption)) ?_
  exact ⟨ix_col hc, rfl⟩
set_option maxRecDepth 100000 in
set_option maxHeartbeats 1000000 in
theorem c_X0_contains {l : Launch} {E : Ee} {M : Mm} {k c : Nat} {S : Nat → Bool} (hk : isCS k) (hS : M.1 (k + 1) = rowsOf S) (hc : c < 256) : CtI l E yX0_contains (.code yX0_contains cX0_contains 2 (some .boolean) :: gl) ({ frames := 0, cells := 0, slots := 0, locals := 0 } : Room) M [.ref (E.2.2 k), .int (nI c)] 0 0 (fun r M2 => r = b2i (S c) ∧ M2 = M) := by
  refine ctI_of (L0 := [some (.ref (E.2.2 k)), some (.int (nI c))]) (by decide) rfl (Nat.le_of_ble_eq_true rfl) rfl ?_
  intro Z hl hE hnl F ret
  subst hE
  have in_X0 : ∀ w ∈ u_ws RX0 TX0 1, w ∈ (.code yX0_contains cX0_contains 2 (some .boolean) :: gl) := fun w h => List.mem_cons_of_mem _ (lay_X0 w h)
  have g9 : FG Z 9 0 0 := fg_mk F (C := RX0) (T := TX0) (N := 1) in_X0 rfl (by decide) rfl (List.mem_cons_of_mem _ fk_X0_9)
  obtain ⟨h0, h1⟩ := id hk
  refine jj_aload_n F dX0_contains_0 rfl ?_
  refine jj_getr F g9 (by assumption) (by rfl) dX0_contains_1 ?_
  refine jj_iload_n F dX0_contains_4 rfl ?_
  refine jj_iconst F (v := nI 4) dX0_contains_5 (by decide) ?_
  refine jj_ishr F dX0_contains_6 ?_
  refine jj_bipush F (v := nI 15) dX0_contains_7 (by decide) ?_
  refine jj_iand F dX0_contains_9 ?_
  refine jj_iald F (by assumption) (ix_row hc) (by omega) dX0_contains_10 ?_
  refine jj_iload_n F dX0_contains_11 rfl ?_
  refine jj_bipush F (v := nI 15) dX0_contains_12 (by decide) ?_
  refine jj_iand F dX0_contains_14 ?_
  refine jj_ishr F dX0_contains_15 ?_
  refine jj_iconst F (v := nI 1) dX0_contains_16 (by decide) ?_
  refine jj_iand F dX0_contains_17 ?_
  refine jj_iconst F (v := nI 1) dX0_contains_18 (by decide) ?_
  refine jj_icmp_ne F (tgt := 26) dX0_contains_19 (by decide) (fun h19 => ?_) (fun h19 => ?_)
  · refine jj_iconst F (v := nI 0) dX0_contains_26 (by decide) ?_
    refine ret _ _ _ _ dX0_contains_27 (nar_z (Or.inl rfl)) ⟨b2i_f ?_, rfl⟩
    rw [ix_col hc, bt_test _ (by omega), hS, rows_at] at h19
    simpa using h19
  · refine jj_iconst F (v := nI 1) dX0_contains_22 (by decide) ?_
    refine jj_goto F (tgt := 27) dX0_contains_23 (by decide) ?_
    refine ret _ _ _ _ dX0_contains_27 (nar_z (Or.inr rfl)) ⟨b2i_t ?_, rfl⟩
    rw [ix_col hc, bt_test _ (by omega), hS, rows_at] at h19
    exact h19
set_option maxRecDepth 100000 in
set_option maxHeartbeats 1000000 in
theorem c_X0_include {l : Launch} {E : Ee} {M : Mm} {k c : Nat} {S : Nat → Bool} (hk : isCS k) (hS : M.1 (k + 1) = rowsOf S) (hc : c < 256) : CtV l E yX0_include (.code yX0_include cX0_include 2 none :: gl) ({ frames := 0, cells := 0, slots := 0, locals := 0 } : Room) M [.ref (E.2.2 k), .int (nI c)] 0 0 (fun M2 => M2 = wA M (k + 1) (rowsOf (fun d => S d || d == c))) := by
  refine ctV_of (L0 := [some (.ref (E.2.2 k)), some (.int (nI c))]) (by decide) rfl (Nat.le_of_ble_eq_true rfl) rfl ?_
  intro Z hl hE hnl F ret
  subst hE
  have in_X0 : ∀ w ∈ u_ws RX0 TX0 1, w ∈ (.code yX0_include cX0_include 2 none :: gl) := fun w h => List.mem_cons_of_mem _ (lay_X0 w h)
  have g9 : FG Z 9 0 0 := fg_mk F (C := RX0) (T := TX0) (N := 1) in_X0 rfl (by decide) rfl (List.mem_cons_of_mem _ fk_X0_9)
  obtain ⟨h0, h1⟩ := id hk
  refine jj_aload_n F dX0_include_0 rfl ?_
  refine jj_getr F g9 (by assumption) (by rfl) dX0_include_1 ?_
  refine jj_iload_n F dX0_include_4 rfl ?_
  refine jj_iconst F (v := nI 4) dX0_include_5 (by decide) ?_
  refine jj_ishr F dX0_include_6 ?_
  refine jj_bipush F (v := nI 15) dX0_include_7 (by decide) ?_
  refine jj_iand F dX0_include_9 ?_
  refine jj_dup2 F dX0_include_10 rfl rfl ?_
  refine jj_iald F (by assumption) (ix_row hc) (by omega) dX0_include_11 ?_
  refine jj_iconst F (v := nI 1) dX0_include_12 (by decide) ?_
  refine jj_iload_n F dX0_include_13 rfl ?_
  refine jj_bipush F (v := nI 15) dX0_include_14 (by decide) ?_
  refine jj_iand F dX0_include_16 ?_
  refine jj_ishl F dX0_include_17 ?_
  refine jj_ior F dX0_include_18 ?_
  refine jj_iast F (by assumption) (ix_row hc) (by omega) dX0_include_19 ?_
  rw [hS, ix_col hc, rows_inc, upd_rows (T := fun d => S d || d == c) rfl (fun d hd => ?_)]
  · exact ret _ _ _ dX0_include_20 rfl
  · have : ¬ d = c := by rintro rfl; exact hd rfl
    simp [this]
set_option maxRecDepth 100000 in
set_option maxHeartbeats 1000000 in
theorem c_X0_exclude {l : Launch} {E : Ee} {M : Mm} {k c : Nat} {S : Nat → Bool} (hk : isCS k) (hS : M.1 (k + 1) = rowsOf S) (hc : c < 256) : CtV l E yX0_exclude (.code yX0_exclude cX0_exclude 2 none :: gl) ({ frames := 0, cells := 0, slots := 0, locals := 0 } : Room) M [.ref (E.2.2 k), .int (nI c)] 0 0 (fun M2 => M2 = wA M (k + 1) (rowsOf (fun d => S d && !(d == c)))) := by
  refine ctV_of (L0 := [some (.ref (E.2.2 k)), some (.int (nI c))]) (by decide) rfl (Nat.le_of_ble_eq_true rfl) rfl ?_
  intro Z hl hE hnl F ret
  subst hE
  have in_X0 : ∀ w ∈ u_ws RX0 TX0 1, w ∈ (.code yX0_exclude cX0_exclude 2 none :: gl) := fun w h => List.mem_cons_of_mem _ (lay_X0 w h)
  have g9 : FG Z 9 0 0 := fg_mk F (C := RX0) (T := TX0) (N := 1) in_X0 rfl (by decide) rfl (List.mem_cons_of_mem _ fk_X0_9)
  obtain ⟨h0, h1⟩ := id hk
  refine jj_aload_n F dX0_exclude_0 rfl ?_
  refine jj_getr F g9 (by assumption) (by rfl) dX0_exclude_1 ?_
  refine jj_iload_n F dX0_exclude_4 rfl ?_
  refine jj_iconst F (v := nI 4) dX0_exclude_5 (by decide) ?_
  refine jj_ishr F dX0_exclude_6 ?_
  refine jj_bipush F (v := nI 15) dX0_exclude_7 (by decide) ?_
  refine jj_iand F dX0_exclude_9 ?_
  refine jj_dup2 F dX0_exclude_10 rfl rfl ?_
  refine jj_iald F (by assumption) (ix_row hc) (by omega) dX0_exclude_11 ?_
  refine jj_iconst F (v := nI 1) dX0_exclude_12 (by decide) ?_
  refine jj_iload_n F dX0_exclude_13 rfl ?_
  refine jj_bipush F (v := nI 15) dX0_exclude_14 (by decide) ?_
  refine jj_iand F dX0_exclude_16 ?_
  refine jj_ishl F dX0_exclude_17 ?_
  refine jj_iconst F (v := -1) dX0_exclude_18 (by decide) ?_
  refine jj_ixor F dX0_exclude_19 ?_
  refine jj_iand F dX0_exclude_20 ?_
  refine jj_iast F (by assumption) (ix_row hc) (by omega) dX0_exclude_21 ?_
  rw [hS, ix_col hc, rows_exc, upd_rows (T := fun d => S d && !(d == c)) rfl (fun d hd => ?_)]
  · exact ret _ _ _ dX0_exclude_22 rfl
  · have : ¬ d = c := by rintro rfl; exact hd rfl
    simp [this]
set_option maxRecDepth 100000 in
set_option maxHeartbeats 1000000 in
theorem c_X0_addAll {l : Launch} {E : Ee} {M : Mm} {k j : Nat} {S T : Nat → Bool} (hk : isCS k) (hj : isCS j) (hne : j + 1 ≠ k + 1) (hS : M.1 (k + 1) = rowsOf S) (hT : M.1 (j + 1) = rowsOf T) : CtV l E yX0_addAll (.code yX0_addAll cX0_addAll 3 none :: gl) ({ frames := 0, cells := 0, slots := 0, locals := 0 } : Room) M [.ref (E.2.2 k), .ref (E.2.2 j)] 0 0 (fun M2 => M2 = wA M (k + 1) (rowsOf (fun c => S c || T c))) := by
  refine ctV_of (L0 := [some (.ref (E.2.2 k)), some (.ref (E.2.2 j)), none]) (by decide) rfl (Nat.le_of_ble_eq_true rfl) rfl ?_
  intro Z hl hE hnl F ret
  subst hE
  have in_X0 : ∀ w ∈ u_ws RX0 TX0 1, w ∈ (.code yX0_addAll cX0_addAll 3 none :: gl) := fun w h => List.mem_cons_of_mem _ (lay_X0 w h)
  have g9 : FG Z 9 0 0 := fg_mk F (C := RX0) (T := TX0) (N := 1) in_X0 rfl (by decide) rfl (List.mem_cons_of_mem _ fk_X0_9)
  obtain ⟨h0, h1⟩ := id hk
  obtain ⟨j0, j1⟩ := id hj
  have lo : ∀ i, i ≤ 16 → JJ Z (0, 0) (wA M (k + 1) (fl i (rowsOf (fun c => S c || T c)) (M.1 (k + 1)))) 2 [some (.ref ((zE Z).2.2 k)), some (.ref ((zE Z).2.2 j)), some (.int (nI i))] [] := by
    refine jj_loop (16) ?_ ?_
    · refine jj_iload_n F dX0_addAll_2 rfl ?_
      refine jj_bipush F (v := nI 16) dX0_addAll_3 (by decide) ?_
      refine jj_icmp_ge F (tgt := 29) dX0_addAll_5 (by decide) (fun _ => ?_) (fun h9 => absurd (nI_le (by omega) (by omega)) h9)
      refine jj_eqv (meq_fl h1) ?_
      exact ret _ _ _ dX0_addAll_29 rfl
    · intro i hi ih
      refine jj_iload_n F dX0_addAll_2 rfl ?_
      refine jj_bipush F (v := nI 16) dX0_addAll_3 (by decide) ?_
      refine jj_icmp_ge F (tgt := 29) dX0_addAll_5 (by decide) (fun h9 => absurd h9 (nI_ge (by omega) (by omega))) (fun _ => ?_)
      refine jj_aload_n F dX0_addAll_8 rfl ?_
      refine jj_getr F g9 (by assumption) (by rfl) dX0_addAll_9 ?_
      refine jj_iload_n F dX0_addAll_12 rfl ?_
      refine jj_dup2 F dX0_addAll_13 rfl rfl ?_
      refine jj_iald F (by assumption) rfl (by omega) dX0_addAll_14 ?_
      refine jj_aload_n F dX0_addAll_15 rfl ?_
      refine jj_getr F g9 (by assumption) (by rfl) dX0_addAll_16 ?_
      refine jj_iload_n F dX0_addAll_19 rfl ?_
      refine jj_iald F (by assumption) rfl (by omega) dX0_addAll_20 ?_
      refine jj_ior F dX0_addAll_21 ?_
      refine jj_iast F (by assumption) rfl (by omega) dX0_addAll_22 ?_
      refine jj_iinc F dX0_addAll_23 rfl (by first | exact iinc1 _ | rfl) (by rw [hnl]; decide) ?_
      dsimp only [lq_st, lq_clr, lq_no]
      refine jj_goto F (tgt := 2) dX0_addAll_26 (by decide) ?_
      rw [fl_put (by rw [wA_s, wA_n hne, fl_out (by omega), hS, hT, rows_or])]
      exact ih
  refine jj_iconst F (v := nI 0) dX0_addAll_0 (by decide) ?_
  refine jj_istore_n F dX0_addAll_1 (by rw [hnl]; decide) ?_
  dsimp only [lq_st, lq_clr, lq_no]
  refine jj_eqM (fl_0 M (k + 1) (rowsOf (fun c => S c || T c))) ?_
  exact lo 0 (by omega)
set_option maxRecDepth 100000 in
set_option maxHeartbeats 1000000 in
theorem c_X0_takeAway {l : Launch} {E : Ee} {M : Mm} {k j : Nat} {S T : Nat → Bool} (hk : isCS k) (hj : isCS j) (hne : j + 1 ≠ k + 1) (hS : M.1 (k + 1) = rowsOf S) (hT : M.1 (j + 1) = rowsOf T) : CtV l E yX0_takeAway (.code yX0_takeAway cX0_takeAway 3 none :: gl) ({ frames := 0, cells := 0, slots := 0, locals := 0 } : Room) M [.ref (E.2.2 k), .ref (E.2.2 j)] 0 0 (fun M2 => M2 = wA M (k + 1) (rowsOf (fun c => S c && !T c))) := by
  refine ctV_of (L0 := [some (.ref (E.2.2 k)), some (.ref (E.2.2 j)), none]) (by decide) rfl (Nat.le_of_ble_eq_true rfl) rfl ?_
  intro Z hl hE hnl F ret
  subst hE
  have in_X0 : ∀ w ∈ u_ws RX0 TX0 1, w ∈ (.code yX0_takeAway cX0_takeAway 3 none :: gl) := fun w h => List.mem_cons_of_mem _ (lay_X0 w h)
  have g9 : FG Z 9 0 0 := fg_mk F (C := RX0) (T := TX0) (N := 1) in_X0 rfl (by decide) rfl (List.mem_cons_of_mem _ fk_X0_9)
  obtain ⟨h0, h1⟩ := id hk
  obtain ⟨j0, j1⟩ := id hj
  have lo : ∀ i, i ≤ 16 → JJ Z (0, 0) (wA M (k + 1) (fl i (rowsOf (fun c => S c && !T c)) (M.1 (k + 1)))) 2 [some (.ref ((zE Z).2.2 k)), some (.ref ((zE Z).2.2 j)), some (.int (nI i))] [] := by
    refine jj_loop (16) ?_ ?_
    · refine jj_iload_n F dX0_takeAway_2 rfl ?_
      refine jj_bipush F (v := nI 16) dX0_takeAway_3 (by decide) ?_
      refine jj_icmp_ge F (tgt := 31) dX0_takeAway_5 (by decide) (fun _ => ?_) (fun h9 => absurd (nI_le (by omega) (by omega)) h9)
      refine jj_eqv (meq_fl h1) ?_
      exact ret _ _ _ dX0_takeAway_31 rfl
    · intro i hi ih
      refine jj_iload_n F dX0_takeAway_2 rfl ?_
      refine jj_bipush F (v := nI 16) dX0_takeAway_3 (by decide) ?_
      refine jj_icmp_ge F (tgt := 31) dX0_takeAway_5 (by decide) (fun h9 => absurd h9 (nI_ge (by omega) (by omega))) (fun _ => ?_)
      refine jj_aload_n F dX0_takeAway_8 rfl ?_
      refine jj_getr F g9 (by assumption) (by rfl) dX0_takeAway_9 ?_
      refine jj_iload_n F dX0_takeAway_12 rfl ?_
      refine jj_dup2 F dX0_takeAway_13 rfl rfl ?_
      refine jj_iald F (by assumption) rfl (by omega) dX0_takeAway_14 ?_
      refine jj_aload_n F dX0_takeAway_15 rfl ?_
      refine jj_getr F g9 (by assumption) (by rfl) dX0_takeAway_16 ?_
      refine jj_iload_n F dX0_takeAway_19 rfl ?_
      refine jj_iald F (by assumption) rfl (by omega) dX0_takeAway_20 ?_
      refine jj_iconst F (v := -1) dX0_takeAway_21 (by decide) ?_
      refine jj_ixor F dX0_takeAway_22 ?_
      refine jj_iand F dX0_takeAway_23 ?_
      refine jj_iast F (by assumption) rfl (by omega) dX0_takeAway_24 ?_
      refine jj_iinc F dX0_takeAway_25 rfl (by first | exact iinc1 _ | rfl) (by rw [hnl]; decide) ?_
      dsimp only [lq_st, lq_clr, lq_no]
      refine jj_goto F (tgt := 2) dX0_takeAway_28 (by decide) ?_
      rw [fl_put (by rw [wA_s, wA_n hne, fl_out (by omega), hS, hT, rows_sub])]
      exact ih
  refine jj_iconst F (v := nI 0) dX0_takeAway_0 (by decide) ?_
  refine jj_istore_n F dX0_takeAway_1 (by rw [hnl]; decide) ?_
  dsimp only [lq_st, lq_clr, lq_no]
  refine jj_eqM (fl_0 M (k + 1) (rowsOf (fun c => S c && !T c))) ?_
  exact lo 0 (by omega)
set_option maxRecDepth 100000 in
set_option maxHeartbeats 1000000 in
theorem c_X0_meets {l : Launch} {E : Ee} {M : Mm} {k j : Nat} {S T : Nat → Bool} (hk : isCS k) (hj : isCS j) (hS : M.1 (k + 1) = rowsOf S) (hT : M.1 (j + 1) = rowsOf T) : CtI l E yX0_meets (.code yX0_meets cX0_meets 3 (some .boolean) :: gl) ({ frames := 0, cells := 0, slots := 0, locals := 0 } : Room) M [.ref (E.2.2 k), .ref (E.2.2 j)] 0 0 (fun r M2 => r = b2i (exB 256 (fun c => S c && T c)) ∧ M2 = M) := by
  refine ctI_of (L0 := [some (.ref (E.2.2 k)), some (.ref (E.2.2 j)), none]) (by decide) rfl (Nat.le_of_ble_eq_true rfl) rfl ?_
  intro Z hl hE hnl F ret
  subst hE
  have in_X0 : ∀ w ∈ u_ws RX0 TX0 1, w ∈ (.code yX0_meets cX0_meets 3 (some .boolean) :: gl) := fun w h => List.mem_cons_of_mem _ (lay_X0 w h)
  have g9 : FG Z 9 0 0 := fg_mk F (C := RX0) (T := TX0) (N := 1) in_X0 rfl (by decide) rfl (List.mem_cons_of_mem _ fk_X0_9)
  obtain ⟨h0, h1⟩ := id hk
  obtain ⟨j0, j1⟩ := id hj
  have lo : ∀ i, i ≤ 16 → (∀ c, c < 16 * i → (S c && T c) = false) → JJ Z (0, 0) (M) 2 [some (.ref ((zE Z).2.2 k)), some (.ref ((zE Z).2.2 j)), some (.int (nI i))] [] := by
    refine jj_loop (16) ?_ ?_
    · intro hv
      refine jj_iload_n F dX0_meets_2 rfl ?_
      refine jj_bipush F (v := nI 16) dX0_meets_3 (by decide) ?_
      refine jj_icmp_ge F (tgt := 32) dX0_meets_5 (by decide) (fun _ => ?_) (fun h9 => absurd (nI_le (by omega) (by omega)) h9)
      refine jj_iconst F (v := nI 0) dX0_meets_32 (by decide) ?_
      exact ret _ _ _ _ dX0_meets_33 (nar_z (Or.inl rfl)) ⟨b2i_f (exB_f (fun c hc => hv c (by omega))), rfl⟩
    · intro i hi ih hv
      refine jj_iload_n F dX0_meets_2 rfl ?_
      refine jj_bipush F (v := nI 16) dX0_meets_3 (by decide) ?_
      refine jj_icmp_ge F (tgt := 32) dX0_meets_5 (by decide) (fun h9 => absurd h9 (nI_ge (by omega) (by omega))) (fun _ => ?_)
      refine jj_aload_n F dX0_meets_8 rfl ?_
      refine jj_getr F g9 (by assumption) (by rfl) dX0_meets_9 ?_
      refine jj_iload_n F dX0_meets_12 rfl ?_
      refine jj_iald F (by assumption) rfl (by omega) dX0_meets_13 ?_
      refine jj_aload_n F dX0_meets_14 rfl ?_
      refine jj_getr F g9 (by assumption) (by rfl) dX0_meets_15 ?_
      refine jj_iload_n F dX0_meets_18 rfl ?_
      refine jj_iald F (by assumption) rfl (by omega) dX0_meets_19 ?_
      refine jj_iand F dX0_meets_20 ?_
      refine jj_if_eq F (tgt := 26) dX0_meets_21 (by decide) (fun h21 => ?_) (fun h21 => ?_)
      · refine jj_iinc F dX0_meets_26 rfl (by first | exact iinc1 _ | rfl) (by rw [hnl]; decide) ?_
        dsimp only [lq_st, lq_clr, lq_no]
        refine jj_goto F (tgt := 2) dX0_meets_29 (by decide) ?_
        refine ih (fun c hc => ?_)
        rw [hS, hT, rows_and0] at h21
        by_cases q : c < 16 * i
        · exact hv c q
        · have := h21 (c - 16 * i) (by omega)
          rwa [show 16 * i + (c - 16 * i) = c by omega] at this
      · refine jj_iconst F (v := nI 1) dX0_meets_24 (by decide) ?_
        refine ret _ _ _ _ dX0_meets_25 (nar_z (Or.inr rfl)) ⟨b2i_t ?_, rfl⟩
        rw [hS, hT] at h21
        obtain ⟨x, hx, hb⟩ := rows_and_ex h21
        exact exB_t (i := 16 * i + x) (by omega) hb
  refine jj_iconst F (v := nI 0) dX0_meets_0 (by decide) ?_
  refine jj_istore_n F dX0_meets_1 (by rw [hnl]; decide) ?_
  dsimp only [lq_st, lq_clr, lq_no]
  exact lo 0 (by omega) (fun c hc => by omega)
set_option maxRecDepth 100000 in
set_option maxHeartbeats 1000000 in
theorem c_J6_bitCount_0f7a4 {l : Launch} {E : Ee} {M : Mm} {m : Nat} (hm : m < 65536) : CtI l E yJ6_bitCount_0f7a4 (.code yJ6_bitCount_0f7a4 cJ6_bitCount_0f7a4 1 (some .int) :: gl) ({ frames := 0, cells := 0, slots := 0, locals := 0 } : Room) M [.int (nI m)] 0 0 (fun r M2 => r = nI (fb_ct (fun i => m.testBit i) 16) ∧ M2 = M) := by
  refine ctI_of (L0 := [some (.int (nI m))]) (by decide) rfl (Nat.le_of_ble_eq_true rfl) rfl ?_
  intro Z hl hE hnl F ret
  subst hE
  refine jj_iload_n F dJ6_bitCount_0f7a4_0 rfl ?_
  refine jj_iload_n F dJ6_bitCount_0f7a4_1 rfl ?_
  refine jj_iconst F (v := nI 1) dJ6_bitCount_0f7a4_2 (by decide) ?_
  refine jj_iushr F dJ6_bitCount_0f7a4_3 ?_
  refine jj_ldcw F (v := 1431655765) dJ6_bitCount_0f7a4_4 (F.hts _ (List.mem_cons_of_mem _ (gl_tb (by decide +kernel) rfl))) ?_
  refine jj_iand F dJ6_bitCount_0f7a4_7 ?_
  refine jj_isub F dJ6_bitCount_0f7a4_8 ?_
  refine jj_istore_n F dJ6_bitCount_0f7a4_9 (by rw [hnl]; decide) ?_
  dsimp only [lq_st, lq_clr, lq_no]
  refine jj_iload_n F dJ6_bitCount_0f7a4_10 rfl ?_
  refine jj_ldcw F (v := 858993459) dJ6_bitCount_0f7a4_11 (F.hts _ (List.mem_cons_of_mem _ (gl_tb (by decide +kernel) rfl))) ?_
  refine jj_iand F dJ6_bitCount_0f7a4_14 ?_
  refine jj_iload_n F dJ6_bitCount_0f7a4_15 rfl ?_
  refine jj_iconst F (v := nI 2) dJ6_bitCount_0f7a4_16 (by decide) ?_
  refine jj_iushr F dJ6_bitCount_0f7a4_17 ?_
  refine jj_ldcw F (v := 858993459) dJ6_bitCount_0f7a4_18 (F.hts _ (List.mem_cons_of_mem _ (gl_tb (by decide +kernel) rfl))) ?_
  refine jj_iand F dJ6_bitCount_0f7a4_21 ?_
  refine jj_iadd F dJ6_bitCount_0f7a4_22 ?_
  refine jj_istore_n F dJ6_bitCount_0f7a4_23 (by rw [hnl]; decide) ?_
  dsimp only [lq_st, lq_clr, lq_no]
  refine jj_iload_n F dJ6_bitCount_0f7a4_24 rfl ?_
  refine jj_iload_n F dJ6_bitCount_0f7a4_25 rfl ?_
  refine jj_iconst F (v := nI 4) dJ6_bitCount_0f7a4_26 (by decide) ?_
  refine jj_iushr F dJ6_bitCount_0f7a4_27 ?_
  refine jj_iadd F dJ6_bitCount_0f7a4_28 ?_
  refine jj_ldcw F (v := 252645135) dJ6_bitCount_0f7a4_29 (F.hts _ (List.mem_cons_of_mem _ (gl_tb (by decide +kernel) rfl))) ?_
  refine jj_iand F dJ6_bitCount_0f7a4_32 ?_
  refine jj_istore_n F dJ6_bitCount_0f7a4_33 (by rw [hnl]; decide) ?_
  dsimp only [lq_st, lq_clr, lq_no]
  refine jj_iload_n F dJ6_bitCount_0f7a4_34 rfl ?_
  refine jj_iload_n F dJ6_bitCount_0f7a4_35 rfl ?_
  refine jj_bipush F (v := nI 8) dJ6_bitCount_0f7a4_36 (by decide) ?_
  refine jj_iushr F dJ6_bitCount_0f7a4_38 ?_
  refine jj_iadd F dJ6_bitCount_0f7a4_39 ?_
  refine jj_istore_n F dJ6_bitCount_0f7a4_40 (by rw [hnl]; decide) ?_
  dsimp only [lq_st, lq_clr, lq_no]
  refine jj_iload_n F dJ6_bitCount_0f7a4_41 rfl ?_
  refine jj_iload_n F dJ6_bitCount_0f7a4_42 rfl ?_
  refine jj_bipush F (v := nI 16) dJ6_bitCount_0f7a4_43 (by decide) ?_
  refine jj_iushr F dJ6_bitCount_0f7a4_45 ?_
  refine jj_iadd F dJ6_bitCount_0f7a4_46 ?_
  refine jj_istore_n F dJ6_bitCount_0f7a4_47 (by rw [hnl]; decide) ?_
  dsimp only [lq_st, lq_clr, lq_no]
  refine jj_iload_n F dJ6_bitCount_0f7a4_48 rfl ?_
  refine jj_bipush F (v := nI 63) dJ6_bitCount_0f7a4_49 (by decide) ?_
  refine jj_iand F dJ6_bitCount_0f7a4_51 ?_
  refine ret _ _ _ _ dJ6_bitCount_0f7a4_52 (by first | rfl | exact nar_z (by first | exact Or.inl rfl | exact Or.inr rfl | assumption)) ?_
  exact ⟨by rw [← bcM_ct hm, ← bcE_eq hm]; rfl, rfl⟩
set_option maxRecDepth 100000 in
set_option maxHeartbeats 1000000 in
theorem c_X0_size {l : Launch} {E : Ee} {M : Mm} {k : Nat} {S : Nat → Bool} (hk : isCS k) (hS : M.1 (k + 1) = rowsOf S) : CtI l E yX0_size (.code yX0_size cX0_size 3 (some .int) :: gl) ({ frames := 1, cells := 0, slots := 0, locals := 20 } : Room) M [.ref (E.2.2 k)] 0 0 (fun r M2 => r = nI (csz S) ∧ M2 = M) := by
  refine ctI_of (L0 := [some (.ref (E.2.2 k)), none, none]) (by decide) rfl (Nat.le_of_ble_eq_true rfl) rfl ?_
  intro Z hl hE hnl F ret
  subst hE
  have in_X0 : ∀ w ∈ u_ws RX0 TX0 1, w ∈ (.code yX0_size cX0_size 3 (some .int) :: gl) := fun w h => List.mem_cons_of_mem _ (lay_X0 w h)
  have g9 : FG Z 9 0 0 := fg_mk F (C := RX0) (T := TX0) (N := 1) in_X0 rfl (by decide) rfl (List.mem_cons_of_mem _ fk_X0_9)
  obtain ⟨h0, h1⟩ := id hk
  have lo : ∀ i, i ≤ 16 → JJ Z (0, 0) (M) 4 [some (.ref ((zE Z).2.2 k)), some (.int (nI (fb_ct S (16 * i)))), some (.int (nI i))] [] := by
    refine jj_loop (16) ?_ ?_
    · refine jj_iload_n F dX0_size_4 rfl ?_
      refine jj_bipush F (v := nI 16) dX0_size_5 (by decide) ?_
      refine jj_icmp_ge F (tgt := 28) dX0_size_7 (by decide) (fun _ => ?_) (fun h9 => absurd (nI_le (by omega) (by omega)) h9)
      refine jj_iload_n F dX0_size_28 rfl ?_
      exact ret _ _ _ _ dX0_size_29 rfl ⟨rfl, rfl⟩
    · intro i hi ih
      refine jj_iload_n F dX0_size_4 rfl ?_
      refine jj_bipush F (v := nI 16) dX0_size_5 (by decide) ?_
      refine jj_icmp_ge F (tgt := 28) dX0_size_7 (by decide) (fun h9 => absurd h9 (nI_ge (by omega) (by omega))) (fun _ => ?_)
      refine jj_iload_n F dX0_size_10 rfl ?_
      refine jj_aload_n F dX0_size_11 rfl ?_
      refine jj_getr F g9 (by assumption) (by rfl) dX0_size_12 ?_
      refine jj_iload_n F dX0_size_15 rfl ?_
      refine jj_iald F (by assumption) rfl (by omega) dX0_size_16 ?_
      rw [hS]
      unfold rowsOf
      refine jj_callSi (na := 1) F (c_J6_bitCount_0f7a4 (rows_sm S i)) (gl_S mk_X0_37 vw_J6_bitCount_0f7a4) rfl rfl rfl (by decide +kernel) ⟨Nat.le_of_ble_eq_true rfl, Nat.le_of_ble_eq_true rfl⟩ rfl rfl (Nat.le_of_ble_eq_true rfl) ⟨Nat.le_of_ble_eq_true rfl, Nat.le_of_ble_eq_true rfl⟩ dX0_size_17 (fun r17 M17 hp17 => ?_)
      obtain ⟨rfl, rfl⟩ := symm2 hp17
      refine jj_iadd F dX0_size_20 ?_
      refine jj_istore_n F dX0_size_21 (by rw [hnl]; decide) ?_
      dsimp only [lq_st, lq_clr, lq_no]
      refine jj_iinc F dX0_size_22 rfl (by first | exact iinc1 _ | rfl) (by rw [hnl]; decide) ?_
      dsimp only [lq_st, lq_clr, lq_no]
      refine jj_goto F (tgt := 4) dX0_size_25 (by decide) ?_
      rw [nI_add, rows_ct]
      exact ih
  refine jj_iconst F (v := nI 0) dX0_size_0 (by decide) ?_
  refine jj_istore_n F dX0_size_1 (by rw [hnl]; decide) ?_
  dsimp only [lq_st, lq_clr, lq_no]
  refine jj_iconst F (v := nI 0) dX0_size_2 (by decide) ?_
  refine jj_istore_n F dX0_size_3 (by rw [hnl]; decide) ?_
  dsimp only [lq_st, lq_clr, lq_no]
  exact lo 0 (by omega)
set_option maxRecDepth 100000 in
set_option maxHeartbeats 1000000 in
theorem c_X0_columnsBetween {l : Launch} {E : Ee} {M : Mm} {a b : Nat} (ha : a < 256) (hb : b < 256) : CtI l E yX0_columnsBetween (.code yX0_columnsBetween cX0_columnsBetween 4 (some .int) :: gl) ({ frames := 1, cells := 0, slots := 0, locals := 20 } : Room) M [.int (nI a), .int (nI b)] 0 0 (fun r M2 => r = (nI 1 <<< (nI (max (a % 16) (b % 16) + 1) &&& 31)) - (nI 1 <<< (nI (min (a % 16) (b % 16)) &&& 31)) ∧ M2 = M) := by
  refine ctI_of (L0 := [some (.int (nI a)), some (.int (nI b)), none, none]) (by decide) rfl (Nat.le_of_ble_eq_true rfl) rfl ?_
  intro Z hl hE hnl F ret
  subst hE
  refine jj_iload_n F dX0_columnsBetween_0 rfl ?_
  refine jj_callSi (na := 1) F (c_X0_columnOf (by omega)) (gl_S mk_X0_34 vw_X0_columnOf) rfl rfl rfl (by decide +kernel) ⟨Nat.le_of_ble_eq_true rfl, Nat.le_of_ble_eq_true rfl⟩ rfl rfl (Nat.le_of_ble_eq_true rfl) ⟨Nat.le_of_ble_eq_true rfl, Nat.le_of_ble_eq_true rfl⟩ dX0_columnsBetween_1 (fun r1 M1 hp1 => ?_)
  obtain ⟨rfl, rfl⟩ := symm2 hp1
  refine jj_iload_n F dX0_columnsBetween_4 rfl ?_
  refine jj_callSi (na := 1) F (c_X0_columnOf (by omega)) (gl_S mk_X0_34 vw_X0_columnOf) rfl rfl rfl (by decide +kernel) ⟨Nat.le_of_ble_eq_true rfl, Nat.le_of_ble_eq_true rfl⟩ rfl rfl (Nat.le_of_ble_eq_true rfl) ⟨Nat.le_of_ble_eq_true rfl, Nat.le_of_ble_eq_true rfl⟩ dX0_columnsBetween_5 (fun r5 M5 hp5 => ?_)
  obtain ⟨rfl, rfl⟩ := symm2 hp5
  refine jj_mmin F mk_X0_31 (Nat.le_of_ble_eq_true rfl) (Nat.le_of_ble_eq_true rfl) (Nat.le_of_ble_eq_true rfl) (Nat.le_of_ble_eq_true rfl) (by omega) (by omega) dX0_columnsBetween_8 ?_
  refine jj_istore_n F dX0_columnsBetween_11 (by rw [hnl]; decide) ?_
  dsimp only [lq_st, lq_clr, lq_no]
  refine jj_iload_n F dX0_columnsBetween_12 rfl ?_
  refine jj_callSi (na := 1) F (c_X0_columnOf (by omega)) (gl_S mk_X0_34 vw_X0_columnOf) rfl rfl rfl (by decide +kernel) ⟨Nat.le_of_ble_eq_true rfl, Nat.le_of_ble_eq_true rfl⟩ rfl rfl (Nat.le_of_ble_eq_true rfl) ⟨Nat.le_of_ble_eq_true rfl, Nat.le_of_ble_eq_true rfl⟩ dX0_columnsBetween_13 (fun r13 M13 hp13 => ?_)
  obtain ⟨rfl, rfl⟩ := symm2 hp13
  refine jj_iload_n F dX0_columnsBetween_16 rfl ?_
  refine jj_callSi (na := 1) F (c_X0_columnOf (by omega)) (gl_S mk_X0_34 vw_X0_columnOf) rfl rfl rfl (by decide +kernel) ⟨Nat.le_of_ble_eq_true rfl, Nat.le_of_ble_eq_true rfl⟩ rfl rfl (Nat.le_of_ble_eq_true rfl) ⟨Nat.le_of_ble_eq_true rfl, Nat.le_of_ble_eq_true rfl⟩ dX0_columnsBetween_17 (fun r17 M17 hp17 => ?_)
  obtain ⟨rfl, rfl⟩ := symm2 hp17
  refine jj_mmax F mk_X0_26 (Nat.le_of_ble_eq_true rfl) (Nat.le_of_ble_eq_true rfl) (Nat.le_of_ble_eq_true rfl) (Nat.le_of_ble_eq_true rfl) (by omega) (by omega) dX0_columnsBetween_20 ?_
  refine jj_istore_n F dX0_columnsBetween_23 (by rw [hnl]; decide) ?_
  dsimp only [lq_st, lq_clr, lq_no]
  refine jj_iconst F (v := nI 1) dX0_columnsBetween_24 (by decide) ?_
  refine jj_iload_n F dX0_columnsBetween_25 rfl ?_
  refine jj_iconst F (v := nI 1) dX0_columnsBetween_26 (by decide) ?_
  refine jj_iadd F dX0_columnsBetween_27 ?_
  refine jj_ishl F dX0_columnsBetween_28 ?_
  refine jj_iconst F (v := nI 1) dX0_columnsBetween_29 (by decide) ?_
  refine jj_iload_n F dX0_columnsBetween_30 rfl ?_
  refine jj_ishl F dX0_columnsBetween_31 ?_
  refine jj_isub F dX0_columnsBetween_32 ?_
  refine ret _ _ _ _ dX0_columnsBetween_33 (by first | rfl | exact nar_z (by first | exact Or.inl rfl | exact Or.inr rfl | assumption)) ?_
  rw [nI_add]
  exact ⟨rfl, rfl⟩
set_option maxRecDepth 100000 in
set_option maxHeartbeats 1000000 in
theorem c_X0_becomeRectangle {l : Launch} {E : Ee} {M : Mm} {k a b : Nat} (hk : isCS k) (ha : a < 256) (hb : b < 256) : CtV l E yX0_becomeRectangle (.code yX0_becomeRectangle cX0_becomeRectangle 6 none :: gl) ({ frames := 2, cells := 0, slots := 0, locals := 43 } : Room) M [.ref (E.2.2 k), .int (nI a), .int (nI b)] 0 0 (fun M2 => M2 = wA M (k + 1) (rowsOf (rect a b))) := by
  refine ctV_of (L0 := [some (.ref (E.2.2 k)), some (.int (nI a)), some (.int (nI b)), none, none, none]) (by decide) rfl (Nat.le_of_ble_eq_true rfl) rfl ?_
  intro Z hl hE hnl F ret
  subst hE
  have in_X0 : ∀ w ∈ u_ws RX0 TX0 1, w ∈ (.code yX0_becomeRectangle cX0_becomeRectangle 6 none :: gl) := fun w h => List.mem_cons_of_mem _ (lay_X0 w h)
  have g9 : FG Z 9 0 0 := fg_mk F (C := RX0) (T := TX0) (N := 1) in_X0 rfl (by decide) rfl (List.mem_cons_of_mem _ fk_X0_9)
  obtain ⟨h0, h1⟩ := id hk
  have lo : ∀ n y, n + y = max (a / 16) (b / 16) + 1 → min (a / 16) (b / 16) ≤ y → JJ Z (0, 0) (wA M (k + 1) (fun z => if min (a / 16) (b / 16) ≤ z ∧ z < y then (nI 1 <<< (nI (max (a % 16) (b % 16) + 1) &&& 31)) - (nI 1 <<< (nI (min (a % 16) (b % 16)) &&& 31)) else rowsOf (fun _ => false) z)) 36 [some (.ref ((zE Z).2.2 k)), some (.int (nI a)), some (.int (nI b)), some (.int ((nI 1 <<< (nI (max (a % 16) (b % 16) + 1) &&& 31)) - (nI 1 <<< (nI (min (a % 16) (b % 16)) &&& 31)))), some (.int (nI (max (a / 16) (b / 16)))), some (.int (nI y))] [] := by
    intro n
    induction n with
    | zero =>
      intro y hy hz
      refine jj_iload F dX0_becomeRectangle_36 rfl ?_
      refine jj_iload F dX0_becomeRectangle_38 rfl ?_
      refine jj_icmp_gt F (tgt := 57) dX0_becomeRectangle_40 (by decide) (fun _ => ?_) (fun h9 => absurd (nI_lt (by omega) (by omega)) h9)
      refine jj_eqM (rect_rows ha hb (by omega)) ?_
      exact ret _ _ _ dX0_becomeRectangle_57 rfl
    | succ n ih =>
      intro y hy hz
      refine jj_iload F dX0_becomeRectangle_36 rfl ?_
      refine jj_iload F dX0_becomeRectangle_38 rfl ?_
      refine jj_icmp_gt F (tgt := 57) dX0_becomeRectangle_40 (by decide) (fun h9 => absurd h9 (nI_nlt (by omega) (by omega))) (fun _ => ?_)
      refine jj_aload_n F dX0_becomeRectangle_43 rfl ?_
      refine jj_getr F g9 (by assumption) (by rfl) dX0_becomeRectangle_44 ?_
      refine jj_iload F dX0_becomeRectangle_47 rfl ?_
      refine jj_iload_n F dX0_becomeRectangle_49 rfl ?_
      refine jj_iast F (by assumption) rfl (by omega) dX0_becomeRectangle_50 ?_
      refine jj_iinc F dX0_becomeRectangle_51 rfl (by first | exact iinc1 _ | rfl) (by rw [hnl]; decide) ?_
      dsimp only [lq_st, lq_clr, lq_no]
      refine jj_goto F (tgt := 36) dX0_becomeRectangle_54 (by decide) ?_
      rw [wA_s, wA_wA, rect_step hz]
      exact ih (y + 1) (by omega) (by omega)
  refine jj_aload_n F dX0_becomeRectangle_0 rfl ?_
  refine jj_callVv (na := 0) F (c_X0_becomeEmpty (by assumption)) (gl_V mk_X0_15 vw_X0_becomeEmpty) rfl rfl rfl (by decide +kernel) ⟨Nat.le_of_ble_eq_true rfl, Nat.le_of_ble_eq_true rfl⟩ (by assumption) rfl rfl rfl (Nat.le_of_ble_eq_true rfl) ⟨Nat.le_of_ble_eq_true rfl, Nat.le_of_ble_eq_true rfl⟩ dX0_becomeRectangle_1 (fun M1 hp1 => ?_)
  obtain rfl := hp1.symm
  refine jj_iload_n F dX0_becomeRectangle_4 rfl ?_
  refine jj_iload_n F dX0_becomeRectangle_5 rfl ?_
  refine jj_callSi (na := 2) F (c_X0_columnsBetween (by omega) (by omega)) (gl_S mk_X0_18 vw_X0_columnsBetween) rfl rfl rfl (by decide +kernel) ⟨Nat.le_of_ble_eq_true rfl, Nat.le_of_ble_eq_true rfl⟩ rfl rfl (Nat.le_of_ble_eq_true rfl) ⟨Nat.le_of_ble_eq_true rfl, Nat.le_of_ble_eq_true rfl⟩ dX0_becomeRectangle_6 (fun r6 M6 hp6 => ?_)
  obtain ⟨rfl, rfl⟩ := symm2 hp6
  refine jj_istore_n F dX0_becomeRectangle_9 (by rw [hnl]; decide) ?_
  dsimp only [lq_st, lq_clr, lq_no]
  refine jj_iload_n F dX0_becomeRectangle_10 rfl ?_
  refine jj_callSi (na := 1) F (c_X0_rowOf (by omega)) (gl_S mk_X0_22 vw_X0_rowOf) rfl rfl rfl (by decide +kernel) ⟨Nat.le_of_ble_eq_true rfl, Nat.le_of_ble_eq_true rfl⟩ rfl rfl (Nat.le_of_ble_eq_true rfl) ⟨Nat.le_of_ble_eq_true rfl, Nat.le_of_ble_eq_true rfl⟩ dX0_becomeRectangle_11 (fun r11 M11 hp11 => ?_)
  obtain ⟨rfl, rfl⟩ := symm2 hp11
  refine jj_iload_n F dX0_becomeRectangle_14 rfl ?_
  refine jj_callSi (na := 1) F (c_X0_rowOf (by omega)) (gl_S mk_X0_22 vw_X0_rowOf) rfl rfl rfl (by decide +kernel) ⟨Nat.le_of_ble_eq_true rfl, Nat.le_of_ble_eq_true rfl⟩ rfl rfl (Nat.le_of_ble_eq_true rfl) ⟨Nat.le_of_ble_eq_true rfl, Nat.le_of_ble_eq_true rfl⟩ dX0_becomeRectangle_15 (fun r15 M15 hp15 => ?_)
  obtain ⟨rfl, rfl⟩ := symm2 hp15
  refine jj_mmax F mk_X0_26 (Nat.le_of_ble_eq_true rfl) (Nat.le_of_ble_eq_true rfl) (Nat.le_of_ble_eq_true rfl) (Nat.le_of_ble_eq_true rfl) (by omega) (by omega) dX0_becomeRectangle_18 ?_
  refine jj_istore F dX0_becomeRectangle_21 (by rw [hnl]; decide) ?_
  dsimp only [lq_st, lq_clr, lq_no]
  refine jj_iload_n F dX0_becomeRectangle_23 rfl ?_
  refine jj_callSi (na := 1) F (c_X0_rowOf (by omega)) (gl_S mk_X0_22 vw_X0_rowOf) rfl rfl rfl (by decide +kernel) ⟨Nat.le_of_ble_eq_true rfl, Nat.le_of_ble_eq_true rfl⟩ rfl rfl (Nat.le_of_ble_eq_true rfl) ⟨Nat.le_of_ble_eq_true rfl, Nat.le_of_ble_eq_true rfl⟩ dX0_becomeRectangle_24 (fun r24 M24 hp24 => ?_)
  obtain ⟨rfl, rfl⟩ := symm2 hp24
  refine jj_iload_n F dX0_becomeRectangle_27 rfl ?_
  refine jj_callSi (na := 1) F (c_X0_rowOf (by omega)) (gl_S mk_X0_22 vw_X0_rowOf) rfl rfl rfl (by decide +kernel) ⟨Nat.le_of_ble_eq_true rfl, Nat.le_of_ble_eq_true rfl⟩ rfl rfl (Nat.le_of_ble_eq_true rfl) ⟨Nat.le_of_ble_eq_true rfl, Nat.le_of_ble_eq_true rfl⟩ dX0_becomeRectangle_28 (fun r28 M28 hp28 => ?_)
  obtain ⟨rfl, rfl⟩ := symm2 hp28
  refine jj_mmin F mk_X0_31 (Nat.le_of_ble_eq_true rfl) (Nat.le_of_ble_eq_true rfl) (Nat.le_of_ble_eq_true rfl) (Nat.le_of_ble_eq_true rfl) (by omega) (by omega) dX0_becomeRectangle_31 ?_
  refine jj_istore F dX0_becomeRectangle_34 (by rw [hnl]; decide) ?_
  dsimp only [lq_st, lq_clr, lq_no]
  refine jj_eqM (rect_0 M k (min (a / 16) (b / 16)) ((nI 1 <<< (nI (max (a % 16) (b % 16) + 1) &&& 31)) - (nI 1 <<< (nI (min (a % 16) (b % 16)) &&& 31)))) ?_
  exact lo (max (a / 16) (b / 16) + 1 - min (a / 16) (b / 16)) (min (a / 16) (b / 16)) (by omega) (by omega)
set_option maxRecDepth 100000 in
set_option maxHeartbeats 1000000 in
theorem c_X0_meetsRectangle {l : Launch} {E : Ee} {M : Mm} {k a b : Nat} {S : Nat → Bool} (hk : isCS k) (hS : M.1 (k + 1) = rowsOf S) (ha : a < 256) (hb : b < 256) : CtI l E yX0_meetsRectangle (.code yX0_meetsRectangle cX0_meetsRectangle 6 (some .boolean) :: gl) ({ frames := 2, cells := 0, slots := 0, locals := 43 } : Room) M [.ref (E.2.2 k), .int (nI a), .int (nI b)] 0 0 (fun r M2 => r = b2i (exB 256 (fun c => S c && rect a b c)) ∧ M2 = M) := by
  refine ctI_of (L0 := [some (.ref (E.2.2 k)), some (.int (nI a)), some (.int (nI b)), none, none, none]) (by decide) rfl (Nat.le_of_ble_eq_true rfl) rfl ?_
  intro Z hl hE hnl F ret
  subst hE
  have in_X0 : ∀ w ∈ u_ws RX0 TX0 1, w ∈ (.code yX0_meetsRectangle cX0_meetsRectangle 6 (some .boolean) :: gl) := fun w h => List.mem_cons_of_mem _ (lay_X0 w h)
  have g9 : FG Z 9 0 0 := fg_mk F (C := RX0) (T := TX0) (N := 1) in_X0 rfl (by decide) rfl (List.mem_cons_of_mem _ fk_X0_9)
  obtain ⟨h0, h1⟩ := id hk
  have lo : ∀ n y, n + y = max (a / 16) (b / 16) + 1 → min (a / 16) (b / 16) ≤ y → (∀ c, c / 16 < y → (S c && rect a b c) = false) → JJ Z (0, 0) M 32 [some (.ref ((zE Z).2.2 k)), some (.int (nI a)), some (.int (nI b)), some (.int ((nI 1 <<< (nI (max (a % 16) (b % 16) + 1) &&& 31)) - (nI 1 <<< (nI (min (a % 16) (b % 16)) &&& 31)))), some (.int (nI (max (a / 16) (b / 16)))), some (.int (nI y))] [] := by
    intro n
    induction n with
    | zero =>
      intro y hy hz hv
      refine jj_iload F dX0_meetsRectangle_32 rfl ?_
      refine jj_iload F dX0_meetsRectangle_34 rfl ?_
      refine jj_icmp_gt F (tgt := 59) dX0_meetsRectangle_36 (by decide) (fun _ => ?_) (fun h9 => absurd (nI_lt (by omega) (by omega)) h9)
      refine jj_iconst F (v := nI 0) dX0_meetsRectangle_59 (by decide) ?_
      refine ret _ _ _ _ dX0_meetsRectangle_60 (nar_z (Or.inl rfl)) ⟨b2i_f (exB_f (fun c hc => ?_)), rfl⟩
      by_cases q : c / 16 < y
      · exact hv c q
      · rw [rect_out (by omega)]
        simp
    | succ n ih =>
      intro y hy hz hv
      refine jj_iload F dX0_meetsRectangle_32 rfl ?_
      refine jj_iload F dX0_meetsRectangle_34 rfl ?_
      refine jj_icmp_gt F (tgt := 59) dX0_meetsRectangle_36 (by decide) (fun h9 => absurd h9 (nI_nlt (by omega) (by omega))) (fun _ => ?_)
      refine jj_aload_n F dX0_meetsRectangle_39 rfl ?_
      refine jj_getr F g9 (by assumption) (by rfl) dX0_meetsRectangle_40 ?_
      refine jj_iload F dX0_meetsRectangle_43 rfl ?_
      refine jj_iald F (by assumption) rfl (by omega) dX0_meetsRectangle_45 ?_
      refine jj_iload_n F dX0_meetsRectangle_46 rfl ?_
      refine jj_iand F dX0_meetsRectangle_47 ?_
      refine jj_if_eq F (tgt := 53) dX0_meetsRectangle_48 (by decide) (fun h48 => ?_) (fun h48 => ?_)
      · refine jj_iinc F dX0_meetsRectangle_53 rfl (iinc1 _) (by rw [hnl]; decide) ?_
        dsimp only [lq_st, lq_clr, lq_no]
        refine jj_goto F (tgt := 32) dX0_meetsRectangle_56 (by decide) ?_
        refine ih (y + 1) (by omega) (by omega) (fun c hc => ?_)
        by_cases q : c / 16 < y
        · exact hv c q
        · rw [hS, ← rect_row (a := a) (b := b) (y := y) ha hb (by omega) (by omega), rows_and0] at h48
          have := h48 (c % 16) (by omega)
          rwa [show 16 * y + c % 16 = c by omega] at this
      · refine jj_iconst F (v := nI 1) dX0_meetsRectangle_51 (by decide) ?_
        refine ret _ _ _ _ dX0_meetsRectangle_52 (nar_z (Or.inr rfl)) ⟨b2i_t ?_, rfl⟩
        rw [hS, ← rect_row (a := a) (b := b) (y := y) ha hb (by omega) (by omega)] at h48
        obtain ⟨x, hx, hbx⟩ := rows_and_ex h48
        exact exB_t (i := 16 * y + x) (by omega) hbx
  refine jj_iload_n F dX0_meetsRectangle_0 rfl ?_
  refine jj_iload_n F dX0_meetsRectangle_1 rfl ?_
  refine jj_callSi (na := 2) F (c_X0_columnsBetween (by omega) (by omega)) (gl_S mk_X0_18 vw_X0_columnsBetween) rfl rfl rfl (by decide +kernel) ⟨Nat.le_of_ble_eq_true rfl, Nat.le_of_ble_eq_true rfl⟩ rfl rfl (Nat.le_of_ble_eq_true rfl) ⟨Nat.le_of_ble_eq_true rfl, Nat.le_of_ble_eq_true rfl⟩ dX0_meetsRectangle_2 (fun r2 M2 hp2 => ?_)
  obtain ⟨rfl, rfl⟩ := symm2 hp2
  refine jj_istore_n F dX0_meetsRectangle_5 (by rw [hnl]; decide) ?_
  dsimp only [lq_st, lq_clr, lq_no]
  refine jj_iload_n F dX0_meetsRectangle_6 rfl ?_
  refine jj_callSi (na := 1) F (c_X0_rowOf (by omega)) (gl_S mk_X0_22 vw_X0_rowOf) rfl rfl rfl (by decide +kernel) ⟨Nat.le_of_ble_eq_true rfl, Nat.le_of_ble_eq_true rfl⟩ rfl rfl (Nat.le_of_ble_eq_true rfl) ⟨Nat.le_of_ble_eq_true rfl, Nat.le_of_ble_eq_true rfl⟩ dX0_meetsRectangle_7 (fun r7 M7 hp7 => ?_)
  obtain ⟨rfl, rfl⟩ := symm2 hp7
  refine jj_iload_n F dX0_meetsRectangle_10 rfl ?_
  refine jj_callSi (na := 1) F (c_X0_rowOf (by omega)) (gl_S mk_X0_22 vw_X0_rowOf) rfl rfl rfl (by decide +kernel) ⟨Nat.le_of_ble_eq_true rfl, Nat.le_of_ble_eq_true rfl⟩ rfl rfl (Nat.le_of_ble_eq_true rfl) ⟨Nat.le_of_ble_eq_true rfl, Nat.le_of_ble_eq_true rfl⟩ dX0_meetsRectangle_11 (fun r11 M11 hp11 => ?_)
  obtain ⟨rfl, rfl⟩ := symm2 hp11
  refine jj_mmax F mk_X0_26 (Nat.le_of_ble_eq_true rfl) (Nat.le_of_ble_eq_true rfl) (Nat.le_of_ble_eq_true rfl) (Nat.le_of_ble_eq_true rfl) (by omega) (by omega) dX0_meetsRectangle_14 ?_
  refine jj_istore F dX0_meetsRectangle_17 (by rw [hnl]; decide) ?_
  dsimp only [lq_st, lq_clr, lq_no]
  refine jj_iload_n F dX0_meetsRectangle_19 rfl ?_
  refine jj_callSi (na := 1) F (c_X0_rowOf (by omega)) (gl_S mk_X0_22 vw_X0_rowOf) rfl rfl rfl (by decide +kernel) ⟨Nat.le_of_ble_eq_true rfl, Nat.le_of_ble_eq_true rfl⟩ rfl rfl (Nat.le_of_ble_eq_true rfl) ⟨Nat.le_of_ble_eq_true rfl, Nat.le_of_ble_eq_true rfl⟩ dX0_meetsRectangle_20 (fun r20 M20 hp20 => ?_)
  obtain ⟨rfl, rfl⟩ := symm2 hp20
  refine jj_iload_n F dX0_meetsRectangle_23 rfl ?_
  refine jj_callSi (na := 1) F (c_X0_rowOf (by omega)) (gl_S mk_X0_22 vw_X0_rowOf) rfl rfl rfl (by decide +kernel) ⟨Nat.le_of_ble_eq_true rfl, Nat.le_of_ble_eq_true rfl⟩ rfl rfl (Nat.le_of_ble_eq_true rfl) ⟨Nat.le_of_ble_eq_true rfl, Nat.le_of_ble_eq_true rfl⟩ dX0_meetsRectangle_24 (fun r24 M24 hp24 => ?_)
  obtain ⟨rfl, rfl⟩ := symm2 hp24
  refine jj_mmin F mk_X0_31 (Nat.le_of_ble_eq_true rfl) (Nat.le_of_ble_eq_true rfl) (Nat.le_of_ble_eq_true rfl) (Nat.le_of_ble_eq_true rfl) (by omega) (by omega) dX0_meetsRectangle_27 ?_
  refine jj_istore F dX0_meetsRectangle_30 (by rw [hnl]; decide) ?_
  dsimp only [lq_st, lq_clr, lq_no]
  exact lo (max (a / 16) (b / 16) + 1 - min (a / 16) (b / 16)) (min (a / 16) (b / 16)) (by omega) (by omega) (fun c hc => by rw [rect_out2 hc]; simp)
