/-! CellSet: cell k, its rows cell k + 1 -/
def isCS (k : Nat) : Prop := kd k = .inl (0, [k + 3]) ∧ kd (k + 1) = .inr (0, 16, 0, 0)
def exB : Nat → (Nat → Bool) → Bool
  | 0, _ => false
  | n + 1, p => exB n p || p n
theorem exB_t {p : Nat → Bool} : ∀ {n i : Nat}, i < n → p i = true → exB n p = true
  | 0, i, h, _ => absurd h (Nat.not_lt_zero i)
  | n + 1, i, h, hp => by
    rcases Nat.lt_or_ge i n with q | q
    · simp [exB, exB_t q hp]
    · have : i = n := by omega
      subst this
      simp [exB, hp]
theorem exB_f {p : Nat → Bool} : ∀ {n : Nat}, (∀ i, i < n → p i = false) → exB n p = false
  | 0, _ => rfl
  | n + 1, h => by
    have a := exB_f (p := p) (n := n) (fun i hi => h i (by omega))
    have b := h n (by omega)
    simp [exB, a, b]
theorem exB_iff {p : Nat → Bool} {n : Nat} : exB n p = true ↔ ∃ i, i < n ∧ p i = true := by
  constructor
  · intro h
    by_cases q : ∃ i, i < n ∧ p i = true
    · exact q
    · rw [exB_f (fun i hi => by
        cases hp : p i
        · rfl
        · exact absurd ⟨i, hi, hp⟩ q)] at h
      cases h
  · rintro ⟨i, hi, hp⟩
    exact exB_t hi hp
set_option maxRecDepth 100000 in
set_option maxHeartbeats 4000000 in
theorem c_X0_becomeEmpty {l : Launch} {E : Ee} {M : Mm} {k : Nat} (hk : isCS k) : CtV l E yX0_becomeEmpty (.code yX0_becomeEmpty cX0_becomeEmpty 2 none :: gl) ({ frames := 0, cells := 0, slots := 0, locals := 0 } : Room) M [.ref (E.2.2 k)] 0 0 (fun M2 => M2 = wA M (k + 1) (fl 16 (fun _ => nI 0) (M.1 (k + 1)))) := by
  refine ctV_of (L0 := [some (.ref (E.2.2 k)), none]) (by decide) rfl (Nat.le_of_ble_eq_true rfl) rfl ?_
  intro Z hl hE hnl F ret
  subst hE
  have in_X0 : ∀ w ∈ u_ws RX0 TX0 1, w ∈ (.code yX0_becomeEmpty cX0_becomeEmpty 2 none :: gl) := fun w h => List.mem_cons_of_mem _ (lay_X0 w h)
  have g9 : FG Z 9 0 0 := fg_mk F (C := RX0) (T := TX0) (N := 1) in_X0 rfl (by decide) rfl (List.mem_cons_of_mem _ fk_X0_9)
  obtain ⟨h0, h1⟩ := hk
  have lo : ∀ i, i ≤ 16 → JJ Z (0, 0) (wA M (k + 1) (fl i (fun _ => nI 0) (M.1 (k + 1)))) 2 [some (.ref ((zE Z).2.2 k)), some (.int (nI i))] [] := by
    refine jj_loop 16 ?_ ?_
    · refine jj_iload_n F dX0_becomeEmpty_2 rfl ?_
      refine jj_bipush F (v := nI 16) dX0_becomeEmpty_3 (by decide) ?_
      refine jj_icmp_ge F (tgt := 21) dX0_becomeEmpty_5 (by decide) (fun _ => ?_) (fun h9 => absurd (nI_le (by omega) (by omega)) h9)
      refine ret _ _ _ dX0_becomeEmpty_21 ?_
      exact rfl
    · intro i hi ih
      refine jj_iload_n F dX0_becomeEmpty_2 rfl ?_
      refine jj_bipush F (v := nI 16) dX0_becomeEmpty_3 (by decide) ?_
      refine jj_icmp_ge F (tgt := 21) dX0_becomeEmpty_5 (by decide) (fun h9 => absurd h9 (nI_ge (by omega) (by omega))) (fun _ => ?_)
      refine jj_aload_n F dX0_becomeEmpty_8 rfl ?_
      refine jj_getr F g9 (by assumption) (by rfl) dX0_becomeEmpty_9 ?_
      refine jj_iload_n F dX0_becomeEmpty_12 rfl ?_
      refine jj_iconst F (v := nI 0) dX0_becomeEmpty_13 (by decide) ?_
      refine jj_iast F (by assumption) rfl (by omega) dX0_becomeEmpty_14 ?_
      refine jj_iinc F dX0_becomeEmpty_15 rfl (iinc1 _) (by rw [hnl]; decide) ?_
      dsimp only [lq_st, lq_clr, lq_no]
      refine jj_goto F (tgt := 2) dX0_becomeEmpty_18 (by decide) ?_
      rw [fl_put rfl]
      exact ih
  refine jj_iconst F (v := nI 0) dX0_becomeEmpty_0 (by decide) ?_
  refine jj_istore_n F dX0_becomeEmpty_1 (by rw [hnl]; decide) ?_
  dsimp only [lq_st, lq_clr, lq_no]
  refine jj_eqM (fl_0 M (k + 1) (fun _ => nI 0)) ?_
  exact lo 0 (by omega)
set_option maxRecDepth 100000 in
set_option maxHeartbeats 4000000 in
theorem c_X0_becomeCopy {l : Launch} {E : Ee} {M : Mm} {k j : Nat} (hk : isCS k) (hj : isCS j) (hne : j + 1 ≠ k + 1) : CtV l E yX0_becomeCopy (.code yX0_becomeCopy cX0_becomeCopy 3 none :: gl) ({ frames := 0, cells := 0, slots := 0, locals := 0 } : Room) M [.ref (E.2.2 k), .ref (E.2.2 j)] 0 0 (fun M2 => M2 = wA M (k + 1) (fl 16 (M.1 (j + 1)) (M.1 (k + 1)))) := by
  refine ctV_of (L0 := [some (.ref (E.2.2 k)), some (.ref (E.2.2 j)), none]) (by decide) rfl (Nat.le_of_ble_eq_true rfl) rfl ?_
  intro Z hl hE hnl F ret
  subst hE
  have in_X0 : ∀ w ∈ u_ws RX0 TX0 1, w ∈ (.code yX0_becomeCopy cX0_becomeCopy 3 none :: gl) := fun w h => List.mem_cons_of_mem _ (lay_X0 w h)
  have g9 : FG Z 9 0 0 := fg_mk F (C := RX0) (T := TX0) (N := 1) in_X0 rfl (by decide) rfl (List.mem_cons_of_mem _ fk_X0_9)
  obtain ⟨h0, h1⟩ := hk
  obtain ⟨j0, j1⟩ := hj
  have lo : ∀ i, i ≤ 16 → JJ Z (0, 0) (wA M (k + 1) (fl i (M.1 (j + 1)) (M.1 (k + 1)))) 2 [some (.ref ((zE Z).2.2 k)), some (.ref ((zE Z).2.2 j)), some (.int (nI i))] [] := by
    refine jj_loop 16 ?_ ?_
    · refine jj_iload_n F dX0_becomeCopy_2 rfl ?_
      refine jj_bipush F (v := nI 16) dX0_becomeCopy_3 (by decide) ?_
      refine jj_icmp_ge F (tgt := 26) dX0_becomeCopy_5 (by decide) (fun _ => ?_) (fun h9 => absurd (nI_le (by omega) (by omega)) h9)
      refine ret _ _ _ dX0_becomeCopy_26 ?_
      exact rfl
    · intro i hi ih
      refine jj_iload_n F dX0_becomeCopy_2 rfl ?_
      refine jj_bipush F (v := nI 16) dX0_becomeCopy_3 (by decide) ?_
      refine jj_icmp_ge F (tgt := 26) dX0_becomeCopy_5 (by decide) (fun h9 => absurd h9 (nI_ge (by omega) (by omega))) (fun _ => ?_)
      refine jj_aload_n F dX0_becomeCopy_8 rfl ?_
      refine jj_getr F g9 (by assumption) (by rfl) dX0_becomeCopy_9 ?_
      refine jj_iload_n F dX0_becomeCopy_12 rfl ?_
      refine jj_aload_n F dX0_becomeCopy_13 rfl ?_
      refine jj_getr F g9 (by assumption) (by rfl) dX0_becomeCopy_14 ?_
      refine jj_iload_n F dX0_becomeCopy_17 rfl ?_
      refine jj_iald F (by assumption) rfl (by omega) dX0_becomeCopy_18 ?_
      refine jj_iast F (by assumption) rfl (by omega) dX0_becomeCopy_19 ?_
      refine jj_iinc F dX0_becomeCopy_20 rfl (iinc1 _) (by rw [hnl]; decide) ?_
      dsimp only [lq_st, lq_clr, lq_no]
      refine jj_goto F (tgt := 2) dX0_becomeCopy_23 (by decide) ?_
      rw [fl_put (by rw [wA_n hne])]
      exact ih
  refine jj_iconst F (v := nI 0) dX0_becomeCopy_0 (by decide) ?_
  refine jj_istore_n F dX0_becomeCopy_1 (by rw [hnl]; decide) ?_
  dsimp only [lq_st, lq_clr, lq_no]
  refine jj_eqM (fl_0 M (k + 1) (M.1 (j + 1))) ?_
  exact lo 0 (by omega)
set_option maxRecDepth 100000 in
set_option maxHeartbeats 4000000 in
theorem c_X0_rowOf {l : Launch} {E : Ee} {M : Mm} {c : Nat} (hc : c < 256) : CtI l E yX0_rowOf (.code yX0_rowOf cX0_rowOf 1 (some .int) :: gl) ({ frames := 0, cells := 0, slots := 0, locals := 0 } : Room) M [.int (nI c)] 0 0 (fun r M2 => r = nI (c / 16) ∧ M2 = M) := by
  refine ctI_of (L0 := [some (.int (nI c))]) (by decide) rfl (Nat.le_of_ble_eq_true rfl) rfl ?_
  intro Z hl hE hnl F ret
  subst hE
  refine jj_iload_n F dX0_rowOf_0 rfl ?_
  refine jj_iconst F (v := nI 4) dX0_rowOf_1 (by decide) ?_
  refine jj_ishr F dX0_rowOf_2 ?_
  refine jj_bipush F (v := nI 15) dX0_rowOf_3 (by decide) ?_
  refine jj_iand F dX0_rowOf_5 ?_
  refine ret _ _ _ _ dX0_rowOf_6 (by first | rfl | exact nar_z (by first | exact Or.inl rfl | exact Or.inr rfl | assumption)) ?_
  exact ⟨ix_row hc, rfl⟩
set_option maxRecDepth 100000 in
set_option maxHeartbeats 4000000 in
theorem c_X0_columnOf {l : Launch} {E : Ee} {M : Mm} {c : Nat} (hc : c < 256) : CtI l E yX0_columnOf (.code yX0_columnOf cX0_columnOf 1 (some .int) :: gl) ({ frames := 0, cells := 0, slots := 0, locals := 0 } : Room) M [.int (nI c)] 0 0 (fun r M2 => r = nI (c % 16) ∧ M2 = M) := by
  refine ctI_of (L0 := [some (.int (nI c))]) (by decide) rfl (Nat.le_of_ble_eq_true rfl) rfl ?_
  intro Z hl hE hnl F ret
  subst hE
  refine jj_iload_n F dX0_columnOf_0 rfl ?_
  refine jj_bipush F (v := nI 15) dX0_columnOf_1 (by decide) ?_
  refine jj_iand F dX0_columnOf_3 ?_
  refine ret _ _ _ _ dX0_columnOf_4 (by first | rfl | exact nar_z (by first | exact Or.inl rfl | exact Or.inr rfl | assumption)) ?_
  exact ⟨ix_col hc, rfl⟩
set_option maxRecDepth 100000 in
set_option maxHeartbeats 4000000 in
theorem c_X0_contains {l : Launch} {E : Ee} {M : Mm} {k c : Nat} (hk : isCS k) (hc : c < 256) : CtI l E yX0_contains (.code yX0_contains cX0_contains 2 (some .boolean) :: gl) ({ frames := 0, cells := 0, slots := 0, locals := 0 } : Room) M [.ref (E.2.2 k), .int (nI c)] 0 0 (fun r M2 => r = b2i (bt (M.1 (k + 1) (c / 16)) (c % 16)) ∧ M2 = M) := by
  refine ctI_of (L0 := [some (.ref (E.2.2 k)), some (.int (nI c))]) (by decide) rfl (Nat.le_of_ble_eq_true rfl) rfl ?_
  intro Z hl hE hnl F ret
  subst hE
  have in_X0 : ∀ w ∈ u_ws RX0 TX0 1, w ∈ (.code yX0_contains cX0_contains 2 (some .boolean) :: gl) := fun w h => List.mem_cons_of_mem _ (lay_X0 w h)
  have g9 : FG Z 9 0 0 := fg_mk F (C := RX0) (T := TX0) (N := 1) in_X0 rfl (by decide) rfl (List.mem_cons_of_mem _ fk_X0_9)
  obtain ⟨h0, h1⟩ := hk
  refine jj_aload_n F dX0_contains_0 rfl ?_
  refine jj_getr F g9 (by assumption) (by rfl) dX0_contains_1 ?_
  refine jj_iload_n F dX0_contains_4 rfl ?_
  refine jj_iconst F (v := nI 4) dX0_contains_5 (by decide) ?_
  refine jj_ishr F dX0_contains_6 ?_
  refine jj_bipush F (v := nI 15) dX0_contains_7 (by decide) ?_
  refine jj_iand F dX0_contains_9 ?_
  refine jj_iald F (by assumption) (ix_row hc) (by omega) dX0_contains_10 ?_
  refine jj_iload_n F dX0_contains_11 rfl ?_
  refine jj_bipush F (v := nI 15) dX0_contains_12 (by decide) ?_
  refine jj_iand F dX0_contains_14 ?_
  refine jj_ishr F dX0_contains_15 ?_
  refine jj_iconst F (v := nI 1) dX0_contains_16 (by decide) ?_
  refine jj_iand F dX0_contains_17 ?_
  refine jj_iconst F (v := nI 1) dX0_contains_18 (by decide) ?_
  refine jj_icmp_ne F (tgt := 26) dX0_contains_19 (by decide) (fun h19 => ?_) (fun h19 => ?_)
  · refine jj_iconst F (v := nI 0) dX0_contains_26 (by decide) ?_
    refine ret _ _ _ _ dX0_contains_27 (nar_z (Or.inl rfl)) ⟨b2i_f (by cases hb : bt (M.1 (k + 1) (c / 16)) (c % 16) with | false => rfl | true => exact absurd (by rw [ix_col hc]; exact (bt_test _ (by omega)).mpr hb) h19), rfl⟩
  · refine jj_iconst F (v := nI 1) dX0_contains_22 (by decide) ?_
    refine jj_goto F (tgt := 27) dX0_contains_23 (by decide) ?_
    refine ret _ _ _ _ dX0_contains_27 (nar_z (Or.inr rfl)) ⟨b2i_t ((bt_test _ (by omega)).mp (by rw [ix_col hc] at h19; exact h19)), rfl⟩
