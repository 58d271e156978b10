/-! Operation: cell 7 + 3 i; fields 0 sort, 1 owner, 2 layer, 3 paint, 4 fade, 5 born, 6 active, 7 undoneBy -/
def vanI (fade born t : Int32) : Bool := decide (0 < fade) && decide (born + fade ≤ t)
def strI (sort fade born t : Int32) : Int32 := if sort = nI 2 ∨ vanI fade born t = true then nI 0 else if 0 < fade then nI 100 * (born + fade - t) / fade else nI 100
theorem i32_nle {x y : Int32} (h : ¬ x ≤ y) : y < x := by
  rw [Int32.lt_iff_toInt_lt]
  rw [Int32.le_iff_toInt_le] at h
  omega
theorem i32_nlt {x y : Int32} (h : ¬ x < y) : y ≤ x := by
  rw [Int32.lt_iff_toInt_lt] at h
  rw [Int32.le_iff_toInt_le]
  omega
theorem i32_le_nlt {x y : Int32} (h : x ≤ y) : ¬ y < x := by
  rw [Int32.le_iff_toInt_le] at h
  rw [Int32.lt_iff_toInt_lt]
  omega
theorem i32_lt_nle {x y : Int32} (h : x < y) : ¬ y ≤ x := by
  rw [Int32.lt_iff_toInt_lt] at h
  rw [Int32.le_iff_toInt_le]
  omega
theorem i32_pos_ne {x : Int32} (h : 0 < x) : ¬ x = 0 := by
  rintro rfl
  exact absurd h (by decide)
set_option maxRecDepth 100000 in
set_option maxHeartbeats 1000000 in
theorem c_X4_hasVanished {l : Launch} {E : Ee} {M : Mm} {i : Nat} {t : Int32} (hi : i < 60) : CtI l E yX4_hasVanished (.code yX4_hasVanished cX4_hasVanished 2 (some .boolean) :: gl) ({ frames := 0, cells := 0, slots := 0, locals := 0 } : Room) M [.ref (E.2.2 (7 + 3 * i)), .int t] 0 0 (fun r M2 => r = b2i (vanI (M.1 (7 + 3 * i) 4) (M.1 (7 + 3 * i) 5) t) ∧ M2 = M) := by
  refine ctI_of (L0 := [some (.ref (E.2.2 (7 + 3 * i))), some (.int t)]) (by decide) rfl (Nat.le_of_ble_eq_true rfl) rfl ?_
  intro Z hl hE hnl F ret
  subst hE
  have in_X4 : ∀ w ∈ u_ws RX4 TX4 9, w ∈ (.code yX4_hasVanished cX4_hasVanished 2 (some .boolean) :: gl) := fun w h => List.mem_cons_of_mem _ (lay_X4 w h)
  have g24 : FG Z 24 4 4 := fg_mk F (C := RX4) (T := TX4) (N := 9) in_X4 rfl (by decide) rfl (List.mem_cons_of_mem _ fk_X4_24)
  have g27 : FG Z 27 4 5 := fg_mk F (C := RX4) (T := TX4) (N := 9) in_X4 rfl (by decide) rfl (List.mem_cons_of_mem _ fk_X4_27)
  have ko := kd_op i hi
  refine jj_aload_n F dX4_hasVanished_0 rfl ?_
  refine jj_geti F g24 (by assumption) (by rfl) dX4_hasVanished_1 ?_
  refine jj_if_le F (tgt := 24) dX4_hasVanished_4 (by decide) (fun h4 => ?_) (fun h4 => ?_)
  · refine jj_iconst F (v := nI 0) dX4_hasVanished_24 (by decide) ?_
    refine ret _ _ _ _ dX4_hasVanished_25 (nar_z (Or.inl rfl)) ⟨b2i_f ?_, rfl⟩
    first
    | (simp [vanI, i32_le_nlt h4]; done)
    | (simp [vanI, i32_lt_nle h17]; done)
  · refine jj_iload_n F dX4_hasVanished_7 rfl ?_
    refine jj_aload_n F dX4_hasVanished_8 rfl ?_
    refine jj_geti F g27 (by assumption) (by rfl) dX4_hasVanished_9 ?_
    refine jj_aload_n F dX4_hasVanished_12 rfl ?_
    refine jj_geti F g24 (by assumption) (by rfl) dX4_hasVanished_13 ?_
    refine jj_iadd F dX4_hasVanished_16 ?_
    refine jj_icmp_lt F (tgt := 24) dX4_hasVanished_17 (by decide) (fun h17 => ?_) (fun h17 => ?_)
    · refine jj_iconst F (v := nI 0) dX4_hasVanished_24 (by decide) ?_
      refine ret _ _ _ _ dX4_hasVanished_25 (nar_z (Or.inl rfl)) ⟨b2i_f ?_, rfl⟩
      first
      | (simp [vanI, i32_le_nlt h4]; done)
      | (simp [vanI, i32_lt_nle h17]; done)
    · refine jj_iconst F (v := nI 1) dX4_hasVanished_20 (by decide) ?_
      refine jj_goto F (tgt := 25) dX4_hasVanished_21 (by decide) ?_
      exact ret _ _ _ _ dX4_hasVanished_25 (nar_z (Or.inr rfl)) ⟨b2i_t (by simp [vanI, i32_nle h4, i32_nlt h17]), rfl⟩
set_option maxRecDepth 100000 in
set_option maxHeartbeats 1000000 in
theorem c_X4_strengthAt {l : Launch} {E : Ee} {M : Mm} {i : Nat} {t : Int32} (hi : i < 60) : CtI l E yX4_strengthAt (.code yX4_strengthAt cX4_strengthAt 2 (some .int) :: gl) ({ frames := 1, cells := 0, slots := 0, locals := 21 } : Room) M [.ref (E.2.2 (7 + 3 * i)), .int t] 0 0 (fun r M2 => r = strI (M.1 (7 + 3 * i) 0) (M.1 (7 + 3 * i) 4) (M.1 (7 + 3 * i) 5) t ∧ M2 = M) := by
  refine ctI_of (L0 := [some (.ref (E.2.2 (7 + 3 * i))), some (.int t)]) (by decide) rfl (Nat.le_of_ble_eq_true rfl) rfl ?_
  intro Z hl hE hnl F ret
  subst hE
  have in_X4 : ∀ w ∈ u_ws RX4 TX4 9, w ∈ (.code yX4_strengthAt cX4_strengthAt 2 (some .int) :: gl) := fun w h => List.mem_cons_of_mem _ (lay_X4 w h)
  have g9 : FG Z 9 4 0 := fg_mk F (C := RX4) (T := TX4) (N := 9) in_X4 rfl (by decide) rfl (List.mem_cons_of_mem _ fk_X4_9)
  have g24 : FG Z 24 4 4 := fg_mk F (C := RX4) (T := TX4) (N := 9) in_X4 rfl (by decide) rfl (List.mem_cons_of_mem _ fk_X4_24)
  have g27 : FG Z 27 4 5 := fg_mk F (C := RX4) (T := TX4) (N := 9) in_X4 rfl (by decide) rfl (List.mem_cons_of_mem _ fk_X4_27)
  have ko := kd_op i hi
  refine jj_aload_n F dX4_strengthAt_0 rfl ?_
  refine jj_geti F g9 (by assumption) (by rfl) dX4_strengthAt_1 ?_
  refine jj_iconst F (v := nI 2) dX4_strengthAt_4 (by decide) ?_
  refine jj_icmp_eq F (tgt := 16) dX4_strengthAt_5 (by decide) (fun h5 => ?_) (fun h5 => ?_)
  · refine jj_iconst F (v := nI 0) dX4_strengthAt_16 (by decide) ?_
    refine ret _ _ _ _ dX4_strengthAt_17 rfl ⟨?_, rfl⟩
    first
    | (simp [strI, h5]; done)
    | (rw [b2i_0] at h13; simp [strI, h13]; done)
    | (rw [b2i_n0] at h13; simp [strI, h13]; done)
  · refine jj_aload_n F dX4_strengthAt_8 rfl ?_
    refine jj_iload_n F dX4_strengthAt_9 rfl ?_
    refine jj_callVi (na := 1) F (c_X4_hasVanished (by omega)) (gl_V mk_X4_44 vw_X4_hasVanished) rfl rfl rfl (by decide +kernel) ⟨Nat.le_of_ble_eq_true rfl, Nat.le_of_ble_eq_true rfl⟩ (by assumption) rfl rfl rfl (Nat.le_of_ble_eq_true rfl) ⟨Nat.le_of_ble_eq_true rfl, Nat.le_of_ble_eq_true rfl⟩ dX4_strengthAt_10 (fun r10 M10 hp10 => ?_)
    obtain ⟨rfl, rfl⟩ := symm2 hp10
    refine jj_if_eq F (tgt := 18) dX4_strengthAt_13 (by decide) (fun h13 => ?_) (fun h13 => ?_)
    · refine jj_aload_n F dX4_strengthAt_18 rfl ?_
      refine jj_geti F g24 (by assumption) (by rfl) dX4_strengthAt_19 ?_
      refine jj_if_gt F (tgt := 30) dX4_strengthAt_22 (by decide) (fun h22 => ?_) (fun h22 => ?_)
      · refine jj_bipush F (v := nI 100) dX4_strengthAt_30 (by decide) ?_
        refine jj_aload_n F dX4_strengthAt_32 rfl ?_
        refine jj_geti F g27 (by assumption) (by rfl) dX4_strengthAt_33 ?_
        refine jj_aload_n F dX4_strengthAt_36 rfl ?_
        refine jj_geti F g24 (by assumption) (by rfl) dX4_strengthAt_37 ?_
        refine jj_iadd F dX4_strengthAt_40 ?_
        refine jj_iload_n F dX4_strengthAt_41 rfl ?_
        refine jj_isub F dX4_strengthAt_42 ?_
        refine jj_imul F dX4_strengthAt_43 ?_
        refine jj_aload_n F dX4_strengthAt_44 rfl ?_
        refine jj_geti F g24 (by assumption) (by rfl) dX4_strengthAt_45 ?_
        refine jj_idiv F dX4_strengthAt_48 (i32_pos_ne h22) ?_
        refine ret _ _ _ _ dX4_strengthAt_49 (by first | rfl | exact nar_z (by first | exact Or.inl rfl | exact Or.inr rfl | assumption)) ?_
        refine ⟨?_, rfl⟩
        rw [b2i_0] at h13
        simp [strI, h5, h13, h22]
      · refine jj_bipush F (v := nI 100) dX4_strengthAt_25 (by decide) ?_
        refine jj_goto F (tgt := 49) dX4_strengthAt_27 (by decide) ?_
        refine ret _ _ _ _ dX4_strengthAt_49 rfl ⟨?_, rfl⟩
        rw [b2i_0] at h13
        simp [strI, h5, h13, h22]
    · refine jj_iconst F (v := nI 0) dX4_strengthAt_16 (by decide) ?_
      refine ret _ _ _ _ dX4_strengthAt_17 rfl ⟨?_, rfl⟩
      first
      | (simp [strI, h5]; done)
      | (rw [b2i_0] at h13; simp [strI, h13]; done)
      | (rw [b2i_n0] at h13; simp [strI, h13]; done)
/-! Leases: cell 187; areas 188, owners 189, ends 190, the areas' sets 191 + 2 i -/
def inF (M : Mm) (t : Int32) (i : Nat) : Bool := !decide (M.1 190 i ≤ t)
set_option maxRecDepth 100000 in
set_option maxHeartbeats 1000000 in
theorem c_X1_freeSlot {l : Launch} {E : Ee} {M : Mm} {t : Int32} : CtI l E yX1_freeSlot (.code yX1_freeSlot cX1_freeSlot 3 (some .int) :: gl) ({ frames := 0, cells := 0, slots := 0, locals := 0 } : Room) M [.ref (E.2.2 187), .int t] 0 0 (fun r M2 => r = (if fst1 (fun j => decide (M.1 190 j ≤ t)) 6 < 6 then nI (fst1 (fun j => decide (M.1 190 j ≤ t)) 6) else -1) ∧ M2 = M) := by
  refine ctI_of (L0 := [some (.ref (E.2.2 187)), some (.int t), none]) (by decide) rfl (Nat.le_of_ble_eq_true rfl) rfl ?_
  intro Z hl hE hnl F ret
  subst hE
  have in_X1 : ∀ w ∈ u_ws RX1 TX1 3, w ∈ (.code yX1_freeSlot cX1_freeSlot 3 (some .int) :: gl) := fun w h => List.mem_cons_of_mem _ (lay_X1 w h)
  have g21 : FG Z 21 1 2 := fg_mk F (C := RX1) (T := TX1) (N := 3) in_X1 rfl (by decide) rfl (List.mem_cons_of_mem _ fk_X1_21)
  have kl := kd_Ls
  have ka := kd_areas
  have kw := kd_owners
  have ke := kd_ends
  have lo : ∀ i, i ≤ 6 → (∀ j, j < i → decide (M.1 190 j ≤ t) = false) → JJ Z (0, 0) (M) 2 [some (.ref ((zE Z).2.2 187)), some (.int t), some (.int (nI i))] [] := by
    refine jj_loop (6) ?_ ?_
    · intro hv
      refine jj_iload_n F dX1_freeSlot_2 rfl ?_
      refine jj_bipush F (v := nI 6) dX1_freeSlot_3 (by decide) ?_
      refine jj_icmp_ge F (tgt := 26) dX1_freeSlot_5 (by decide) (fun _ => ?_) (fun h9 => absurd (nI_le (by omega) (by omega)) h9)
      refine jj_iconst F (v := -1) dX1_freeSlot_26 (by decide) ?_
      refine ret _ _ _ _ dX1_freeSlot_27 rfl ⟨?_, rfl⟩
      rw [fst1_no hv]
      rfl
    · intro i hi ih hv
      refine jj_iload_n F dX1_freeSlot_2 rfl ?_
      refine jj_bipush F (v := nI 6) dX1_freeSlot_3 (by decide) ?_
      refine jj_icmp_ge F (tgt := 26) dX1_freeSlot_5 (by decide) (fun h9 => absurd h9 (nI_ge (by omega) (by omega))) (fun _ => ?_)
      refine jj_iload_n F dX1_freeSlot_8 rfl ?_
      refine jj_aload_n F dX1_freeSlot_9 rfl ?_
      refine jj_getr F g21 (by assumption) (by rfl) dX1_freeSlot_10 ?_
      refine jj_iload_n F dX1_freeSlot_13 rfl ?_
      refine jj_iald F (by assumption) rfl (by omega) dX1_freeSlot_14 ?_
      refine jj_icmp_lt F (tgt := 20) dX1_freeSlot_15 (by decide) (fun h15 => ?_) (fun h15 => ?_)
      · refine jj_iinc F dX1_freeSlot_20 rfl (by first | exact iinc1 _ | rfl) (by rw [hnl]; decide) ?_
        dsimp only [lq_st, lq_clr, lq_no]
        refine jj_goto F (tgt := 2) dX1_freeSlot_23 (by decide) ?_
        exact ih (fun j hj => by rcases Nat.lt_or_ge j i with q | q; exact hv j q; (have e : j = i := by omega); subst e; simpa using i32_lt_nle h15)
      · refine jj_iload_n F dX1_freeSlot_18 rfl ?_
        refine ret _ _ _ _ dX1_freeSlot_19 rfl ⟨?_, rfl⟩
        have e := fst1_yes (p := fun j => decide (M.1 190 j ≤ t)) (i := i) (by simpa using i32_nlt h15) hv (n := 6) hi
        rw [e, if_pos hi]
  refine jj_iconst F (v := nI 0) dX1_freeSlot_0 (by decide) ?_
  refine jj_istore_n F dX1_freeSlot_1 (by rw [hnl]; decide) ?_
  dsimp only [lq_st, lq_clr, lq_no]
  exact lo 0 (by omega) (fun j hj => by omega)
set_option maxRecDepth 100000 in
set_option maxHeartbeats 1000000 in
theorem c_X1_begin {l : Launch} {E : Ee} {M : Mm} {q : Nat} {ow en : Int32} (hq : q < 6) : CtV l E yX1_begin (.code yX1_begin cX1_begin 4 none :: gl) ({ frames := 0, cells := 0, slots := 0, locals := 0 } : Room) M [.ref (E.2.2 187), .int (nI q), .int ow, .int en] 0 0 (fun M2 => M2 = wA (wA M 189 (upd (M.1 189) q ow)) 190 (upd (M.1 190) q en)) := by
  refine ctV_of (L0 := [some (.ref (E.2.2 187)), some (.int (nI q)), some (.int ow), some (.int en)]) (by decide) rfl (Nat.le_of_ble_eq_true rfl) rfl ?_
  intro Z hl hE hnl F ret
  subst hE
  have in_X1 : ∀ w ∈ u_ws RX1 TX1 3, w ∈ (.code yX1_begin cX1_begin 4 none :: gl) := fun w h => List.mem_cons_of_mem _ (lay_X1 w h)
  have g17 : FG Z 17 1 1 := fg_mk F (C := RX1) (T := TX1) (N := 3) in_X1 rfl (by decide) rfl (List.mem_cons_of_mem _ fk_X1_17)
  have g21 : FG Z 21 1 2 := fg_mk F (C := RX1) (T := TX1) (N := 3) in_X1 rfl (by decide) rfl (List.mem_cons_of_mem _ fk_X1_21)
  have kl := kd_Ls
  have ka := kd_areas
  have kw := kd_owners
  have ke := kd_ends
  refine jj_aload_n F dX1_begin_0 rfl ?_
  refine jj_getr F g17 (by assumption) (by rfl) dX1_begin_1 ?_
  refine jj_iload_n F dX1_begin_4 rfl ?_
  refine jj_iload_n F dX1_begin_5 rfl ?_
  refine jj_iast F (by assumption) rfl (by omega) dX1_begin_6 ?_
  refine jj_aload_n F dX1_begin_7 rfl ?_
  refine jj_getr F g21 (by assumption) (by rfl) dX1_begin_8 ?_
  refine jj_iload_n F dX1_begin_11 rfl ?_
  refine jj_iload_n F dX1_begin_12 rfl ?_
  refine jj_iast F (by assumption) rfl (by omega) dX1_begin_13 ?_
  refine ret _ _ _ dX1_begin_14 ?_
  rw [wA_n (by decide)]
set_option maxRecDepth 100000 in
set_option maxHeartbeats 1000000 in
theorem c_X1_endAll {l : Launch} {E : Ee} {M : Mm}  : CtV l E yX1_endAll (.code yX1_endAll cX1_endAll 2 none :: gl) ({ frames := 0, cells := 0, slots := 0, locals := 0 } : Room) M [.ref (E.2.2 187)] 0 0 (fun M2 => M2 = wA M 190 (fun _ => nI 0)) := by
  refine ctV_of (L0 := [some (.ref (E.2.2 187)), none]) (by decide) rfl (Nat.le_of_ble_eq_true rfl) rfl ?_
  intro Z hl hE hnl F ret
  subst hE
  have in_X1 : ∀ w ∈ u_ws RX1 TX1 3, w ∈ (.code yX1_endAll cX1_endAll 2 none :: gl) := fun w h => List.mem_cons_of_mem _ (lay_X1 w h)
  have g21 : FG Z 21 1 2 := fg_mk F (C := RX1) (T := TX1) (N := 3) in_X1 rfl (by decide) rfl (List.mem_cons_of_mem _ fk_X1_21)
  have kl := kd_Ls
  have ka := kd_areas
  have kw := kd_owners
  have ke := kd_ends
  have lo : ∀ i, i ≤ 6 → JJ Z (0, 0) (wA M 190 (fl i (fun _ => nI 0) (M.1 190))) 2 [some (.ref ((zE Z).2.2 187)), some (.int (nI i))] [] := by
    refine jj_loop (6) ?_ ?_
    · refine jj_iload_n F dX1_endAll_2 rfl ?_
      refine jj_bipush F (v := nI 6) dX1_endAll_3 (by decide) ?_
      refine jj_icmp_ge F (tgt := 21) dX1_endAll_5 (by decide) (fun _ => ?_) (fun h9 => absurd (nI_le (by omega) (by omega)) h9)
      refine jj_eqv (meq_fl ke) ?_
      exact ret _ _ _ dX1_endAll_21 rfl
    · intro i hi ih
      refine jj_iload_n F dX1_endAll_2 rfl ?_
      refine jj_bipush F (v := nI 6) dX1_endAll_3 (by decide) ?_
      refine jj_icmp_ge F (tgt := 21) dX1_endAll_5 (by decide) (fun h9 => absurd h9 (nI_ge (by omega) (by omega))) (fun _ => ?_)
      refine jj_aload_n F dX1_endAll_8 rfl ?_
      refine jj_getr F g21 (by assumption) (by rfl) dX1_endAll_9 ?_
      refine jj_iload_n F dX1_endAll_12 rfl ?_
      refine jj_iconst F (v := nI 0) dX1_endAll_13 (by decide) ?_
      refine jj_iast F (by assumption) rfl (by omega) dX1_endAll_14 ?_
      refine jj_iinc F dX1_endAll_15 rfl (by first | exact iinc1 _ | rfl) (by rw [hnl]; decide) ?_
      dsimp only [lq_st, lq_clr, lq_no]
      refine jj_goto F (tgt := 2) dX1_endAll_18 (by decide) ?_
      rw [fl_put rfl]
      exact ih
  refine jj_iconst F (v := nI 0) dX1_endAll_0 (by decide) ?_
  refine jj_istore_n F dX1_endAll_1 (by rw [hnl]; decide) ?_
  dsimp only [lq_st, lq_clr, lq_no]
  refine jj_eqM (fl_0 M 190 (fun _ => nI 0)) ?_
  exact lo 0 (by omega)
set_option maxRecDepth 100000 in
set_option maxHeartbeats 1000000 in
theorem c_X1_endAllOf {l : Launch} {E : Ee} {M : Mm} {ow t : Int32} : CtI l E yX1_endAllOf (.code yX1_endAllOf cX1_endAllOf 5 (some .int) :: gl) ({ frames := 0, cells := 0, slots := 0, locals := 0 } : Room) M [.ref (E.2.2 187), .int ow, .int t] 0 0 (fun r M2 => r = nI (fb_ct (fun j => inF M t j && decide (M.1 189 j = ow)) 6) ∧ M2 = wA M 190 (fun j => if inF M t j && decide (M.1 189 j = ow) then nI 0 else M.1 190 j)) := by
  refine ctI_of (L0 := [some (.ref (E.2.2 187)), some (.int ow), some (.int t), none, none]) (by decide) rfl (Nat.le_of_ble_eq_true rfl) rfl ?_
  intro Z hl hE hnl F ret
  subst hE
  have in_X1 : ∀ w ∈ u_ws RX1 TX1 3, w ∈ (.code yX1_endAllOf cX1_endAllOf 5 (some .int) :: gl) := fun w h => List.mem_cons_of_mem _ (lay_X1 w h)
  have g17 : FG Z 17 1 1 := fg_mk F (C := RX1) (T := TX1) (N := 3) in_X1 rfl (by decide) rfl (List.mem_cons_of_mem _ fk_X1_17)
  have g21 : FG Z 21 1 2 := fg_mk F (C := RX1) (T := TX1) (N := 3) in_X1 rfl (by decide) rfl (List.mem_cons_of_mem _ fk_X1_21)
  have kl := kd_Ls
  have ka := kd_areas
  have kw := kd_owners
  have ke := kd_ends
  have lo : ∀ i, i ≤ 6 → JJ Z (0, 0) (wA M 190 (fl i (fun j => if inF M t j && decide (M.1 189 j = ow) then nI 0 else M.1 190 j) (M.1 190))) 5 [some (.ref ((zE Z).2.2 187)), some (.int ow), some (.int t), some (.int (nI (fb_ct (fun j => inF M t j && decide (M.1 189 j = ow)) i))), some (.int (nI i))] [] := by
    refine jj_loop (6) ?_ ?_
    · refine jj_iload F dX1_endAllOf_5 rfl ?_
      refine jj_bipush F (v := nI 6) dX1_endAllOf_7 (by decide) ?_
      refine jj_icmp_ge F (tgt := 51) dX1_endAllOf_9 (by decide) (fun _ => ?_) (fun h9 => absurd (nI_le (by omega) (by omega)) h9)
      refine jj_eqv (meq_fl ke) ?_
      refine jj_iload_n F dX1_endAllOf_51 rfl ?_
      exact ret _ _ _ _ dX1_endAllOf_52 rfl ⟨rfl, rfl⟩
    · intro i hi ih
      refine jj_iload F dX1_endAllOf_5 rfl ?_
      refine jj_bipush F (v := nI 6) dX1_endAllOf_7 (by decide) ?_
      refine jj_icmp_ge F (tgt := 51) dX1_endAllOf_9 (by decide) (fun h9 => absurd h9 (nI_ge (by omega) (by omega))) (fun _ => ?_)
      refine jj_iload_n F dX1_endAllOf_12 rfl ?_
      refine jj_aload_n F dX1_endAllOf_13 rfl ?_
      refine jj_getr F g21 (by assumption) (by rfl) dX1_endAllOf_14 ?_
      refine jj_iload F dX1_endAllOf_17 rfl ?_
      refine jj_iald F (by assumption) rfl (by omega) dX1_endAllOf_19 ?_
      rw [wA_s, fl_out (by omega)]
      refine jj_icmp_ge F (tgt := 45) dX1_endAllOf_20 (by decide) (fun h20 => ?_) (fun h20 => ?_)
      · refine jj_iinc F dX1_endAllOf_45 rfl (by first | exact iinc1 _ | rfl) (by rw [hnl]; decide) ?_
        dsimp only [lq_st, lq_clr, lq_no]
        refine jj_goto F (tgt := 5) dX1_endAllOf_48 (by decide) ?_
        first
        | (rw [fl_put (by simp [inF, h20, h31])]; refine jj_eqL ?_ ih; simp [fb_ct, inF, h20, h31]; done)
        | (rw [fl_skip (by simp [inF, h20])]; refine jj_eqL ?_ ih; simp [fb_ct, inF, h20]; done)
        | (rw [fl_skip (by simp [inF, h20, h31])]; refine jj_eqL ?_ ih; simp [fb_ct, inF, h20, h31]; done)
      · refine jj_aload_n F dX1_endAllOf_23 rfl ?_
        refine jj_getr F g17 (by assumption) (by rfl) dX1_endAllOf_24 ?_
        refine jj_iload F dX1_endAllOf_27 rfl ?_
        refine jj_iald F (by assumption) rfl (by omega) dX1_endAllOf_29 ?_
        rw [wA_n (by decide)]
        refine jj_iload_n F dX1_endAllOf_30 rfl ?_
        refine jj_icmp_ne F (tgt := 45) dX1_endAllOf_31 (by decide) (fun h31 => ?_) (fun h31 => ?_)
        · refine jj_iinc F dX1_endAllOf_45 rfl (by first | exact iinc1 _ | rfl) (by rw [hnl]; decide) ?_
          dsimp only [lq_st, lq_clr, lq_no]
          refine jj_goto F (tgt := 5) dX1_endAllOf_48 (by decide) ?_
          first
          | (rw [fl_put (by simp [inF, h20, h31])]; refine jj_eqL ?_ ih; simp [fb_ct, inF, h20, h31]; done)
          | (rw [fl_skip (by simp [inF, h20])]; refine jj_eqL ?_ ih; simp [fb_ct, inF, h20]; done)
          | (rw [fl_skip (by simp [inF, h20, h31])]; refine jj_eqL ?_ ih; simp [fb_ct, inF, h20, h31]; done)
        · refine jj_aload_n F dX1_endAllOf_34 rfl ?_
          refine jj_getr F g21 (by assumption) (by rfl) dX1_endAllOf_35 ?_
          refine jj_iload F dX1_endAllOf_38 rfl ?_
          refine jj_iconst F (v := nI 0) dX1_endAllOf_40 (by decide) ?_
          refine jj_iast F (by assumption) rfl (by omega) dX1_endAllOf_41 ?_
          refine jj_iinc F dX1_endAllOf_42 rfl (by first | exact iinc1 _ | rfl) (by rw [hnl]; decide) ?_
          dsimp only [lq_st, lq_clr, lq_no]
          refine jj_iinc F dX1_endAllOf_45 rfl (by first | exact iinc1 _ | rfl) (by rw [hnl]; decide) ?_
          dsimp only [lq_st, lq_clr, lq_no]
          refine jj_goto F (tgt := 5) dX1_endAllOf_48 (by decide) ?_
          first
          | (rw [fl_put (by simp [inF, h20, h31])]; refine jj_eqL ?_ ih; simp [fb_ct, inF, h20, h31]; done)
          | (rw [fl_skip (by simp [inF, h20])]; refine jj_eqL ?_ ih; simp [fb_ct, inF, h20]; done)
          | (rw [fl_skip (by simp [inF, h20, h31])]; refine jj_eqL ?_ ih; simp [fb_ct, inF, h20, h31]; done)
  refine jj_iconst F (v := nI 0) dX1_endAllOf_0 (by decide) ?_
  refine jj_istore_n F dX1_endAllOf_1 (by rw [hnl]; decide) ?_
  dsimp only [lq_st, lq_clr, lq_no]
  refine jj_iconst F (v := nI 0) dX1_endAllOf_2 (by decide) ?_
  refine jj_istore F dX1_endAllOf_3 (by rw [hnl]; decide) ?_
  dsimp only [lq_st, lq_clr, lq_no]
  refine jj_eqM (fl_0 M 190 (fun j => if inF M t j && decide (M.1 189 j = ow) then nI 0 else M.1 190 j)) ?_
  exact lo 0 (by omega)
set_option maxRecDepth 100000 in
set_option maxHeartbeats 1000000 in
theorem c_X1_inForce {l : Launch} {E : Ee} {M : Mm} {t : Int32} : CtI l E yX1_inForce (.code yX1_inForce cX1_inForce 4 (some .int) :: gl) ({ frames := 0, cells := 0, slots := 0, locals := 0 } : Room) M [.ref (E.2.2 187), .int t] 0 0 (fun r M2 => r = nI (fb_ct (fun j => inF M t j) 6) ∧ M2 = M) := by
  refine ctI_of (L0 := [some (.ref (E.2.2 187)), some (.int t), none, none]) (by decide) rfl (Nat.le_of_ble_eq_true rfl) rfl ?_
  intro Z hl hE hnl F ret
  subst hE
  have in_X1 : ∀ w ∈ u_ws RX1 TX1 3, w ∈ (.code yX1_inForce cX1_inForce 4 (some .int) :: gl) := fun w h => List.mem_cons_of_mem _ (lay_X1 w h)
  have g21 : FG Z 21 1 2 := fg_mk F (C := RX1) (T := TX1) (N := 3) in_X1 rfl (by decide) rfl (List.mem_cons_of_mem _ fk_X1_21)
  have kl := kd_Ls
  have ka := kd_areas
  have kw := kd_owners
  have ke := kd_ends
  have lo : ∀ i, i ≤ 6 → JJ Z (0, 0) (M) 4 [some (.ref ((zE Z).2.2 187)), some (.int t), some (.int (nI (fb_ct (fun j => inF M t j) i))), some (.int (nI i))] [] := by
    refine jj_loop (6) ?_ ?_
    · refine jj_iload_n F dX1_inForce_4 rfl ?_
      refine jj_bipush F (v := nI 6) dX1_inForce_5 (by decide) ?_
      refine jj_icmp_ge F (tgt := 29) dX1_inForce_7 (by decide) (fun _ => ?_) (fun h9 => absurd (nI_le (by omega) (by omega)) h9)
      refine jj_iload_n F dX1_inForce_29 rfl ?_
      exact ret _ _ _ _ dX1_inForce_30 rfl ⟨rfl, rfl⟩
    · intro i hi ih
      refine jj_iload_n F dX1_inForce_4 rfl ?_
      refine jj_bipush F (v := nI 6) dX1_inForce_5 (by decide) ?_
      refine jj_icmp_ge F (tgt := 29) dX1_inForce_7 (by decide) (fun h9 => absurd h9 (nI_ge (by omega) (by omega))) (fun _ => ?_)
      refine jj_iload_n F dX1_inForce_10 rfl ?_
      refine jj_aload_n F dX1_inForce_11 rfl ?_
      refine jj_getr F g21 (by assumption) (by rfl) dX1_inForce_12 ?_
      refine jj_iload_n F dX1_inForce_15 rfl ?_
      refine jj_iald F (by assumption) rfl (by omega) dX1_inForce_16 ?_
      refine jj_icmp_ge F (tgt := 23) dX1_inForce_17 (by decide) (fun h17 => ?_) (fun h17 => ?_)
      · refine jj_iinc F dX1_inForce_23 rfl (by first | exact iinc1 _ | rfl) (by rw [hnl]; decide) ?_
        dsimp only [lq_st, lq_clr, lq_no]
        refine jj_goto F (tgt := 4) dX1_inForce_26 (by decide) ?_
        refine jj_eqL ?_ ih
        simp [fb_ct, inF, h17]
      · refine jj_iinc F dX1_inForce_20 rfl (by first | exact iinc1 _ | rfl) (by rw [hnl]; decide) ?_
        dsimp only [lq_st, lq_clr, lq_no]
        refine jj_iinc F dX1_inForce_23 rfl (by first | exact iinc1 _ | rfl) (by rw [hnl]; decide) ?_
        dsimp only [lq_st, lq_clr, lq_no]
        refine jj_goto F (tgt := 4) dX1_inForce_26 (by decide) ?_
        refine jj_eqL ?_ ih
        simp [fb_ct, inF, h17]
  refine jj_iconst F (v := nI 0) dX1_inForce_0 (by decide) ?_
  refine jj_istore_n F dX1_inForce_1 (by rw [hnl]; decide) ?_
  dsimp only [lq_st, lq_clr, lq_no]
  refine jj_iconst F (v := nI 0) dX1_inForce_2 (by decide) ?_
  refine jj_istore_n F dX1_inForce_3 (by rw [hnl]; decide) ?_
  dsimp only [lq_st, lq_clr, lq_no]
  exact lo 0 (by omega)
set_option maxRecDepth 100000 in
set_option maxHeartbeats 1000000 in
theorem c_X1_inForceOf {l : Launch} {E : Ee} {M : Mm} {ow t : Int32} : CtI l E yX1_inForceOf (.code yX1_inForceOf cX1_inForceOf 5 (some .int) :: gl) ({ frames := 0, cells := 0, slots := 0, locals := 0 } : Room) M [.ref (E.2.2 187), .int ow, .int t] 0 0 (fun r M2 => r = nI (fb_ct (fun j => inF M t j && decide (M.1 189 j = ow)) 6) ∧ M2 = M) := by
  refine ctI_of (L0 := [some (.ref (E.2.2 187)), some (.int ow), some (.int t), none, none]) (by decide) rfl (Nat.le_of_ble_eq_true rfl) rfl ?_
  intro Z hl hE hnl F ret
  subst hE
  have in_X1 : ∀ w ∈ u_ws RX1 TX1 3, w ∈ (.code yX1_inForceOf cX1_inForceOf 5 (some .int) :: gl) := fun w h => List.mem_cons_of_mem _ (lay_X1 w h)
  have g17 : FG Z 17 1 1 := fg_mk F (C := RX1) (T := TX1) (N := 3) in_X1 rfl (by decide) rfl (List.mem_cons_of_mem _ fk_X1_17)
  have g21 : FG Z 21 1 2 := fg_mk F (C := RX1) (T := TX1) (N := 3) in_X1 rfl (by decide) rfl (List.mem_cons_of_mem _ fk_X1_21)
  have kl := kd_Ls
  have ka := kd_areas
  have kw := kd_owners
  have ke := kd_ends
  have lo : ∀ i, i ≤ 6 → JJ Z (0, 0) (M) 5 [some (.ref ((zE Z).2.2 187)), some (.int ow), some (.int t), some (.int (nI (fb_ct (fun j => inF M t j && decide (M.1 189 j = ow)) i))), some (.int (nI i))] [] := by
    refine jj_loop (6) ?_ ?_
    · refine jj_iload F dX1_inForceOf_5 rfl ?_
      refine jj_bipush F (v := nI 6) dX1_inForceOf_7 (by decide) ?_
      refine jj_icmp_ge F (tgt := 43) dX1_inForceOf_9 (by decide) (fun _ => ?_) (fun h9 => absurd (nI_le (by omega) (by omega)) h9)
      refine jj_iload_n F dX1_inForceOf_43 rfl ?_
      exact ret _ _ _ _ dX1_inForceOf_44 rfl ⟨rfl, rfl⟩
    · intro i hi ih
      refine jj_iload F dX1_inForceOf_5 rfl ?_
      refine jj_bipush F (v := nI 6) dX1_inForceOf_7 (by decide) ?_
      refine jj_icmp_ge F (tgt := 43) dX1_inForceOf_9 (by decide) (fun h9 => absurd h9 (nI_ge (by omega) (by omega))) (fun _ => ?_)
      refine jj_iload_n F dX1_inForceOf_12 rfl ?_
      refine jj_aload_n F dX1_inForceOf_13 rfl ?_
      refine jj_getr F g21 (by assumption) (by rfl) dX1_inForceOf_14 ?_
      refine jj_iload F dX1_inForceOf_17 rfl ?_
      refine jj_iald F (by assumption) rfl (by omega) dX1_inForceOf_19 ?_
      refine jj_icmp_ge F (tgt := 37) dX1_inForceOf_20 (by decide) (fun h20 => ?_) (fun h20 => ?_)
      · refine jj_iinc F dX1_inForceOf_37 rfl (by first | exact iinc1 _ | rfl) (by rw [hnl]; decide) ?_
        dsimp only [lq_st, lq_clr, lq_no]
        refine jj_goto F (tgt := 5) dX1_inForceOf_40 (by decide) ?_
        refine jj_eqL ?_ ih
        first
        | (simp [fb_ct, inF, h20]; done)
        | (simp [fb_ct, inF, h20, h31]; done)
      · refine jj_aload_n F dX1_inForceOf_23 rfl ?_
        refine jj_getr F g17 (by assumption) (by rfl) dX1_inForceOf_24 ?_
        refine jj_iload F dX1_inForceOf_27 rfl ?_
        refine jj_iald F (by assumption) rfl (by omega) dX1_inForceOf_29 ?_
        refine jj_iload_n F dX1_inForceOf_30 rfl ?_
        refine jj_icmp_ne F (tgt := 37) dX1_inForceOf_31 (by decide) (fun h31 => ?_) (fun h31 => ?_)
        · refine jj_iinc F dX1_inForceOf_37 rfl (by first | exact iinc1 _ | rfl) (by rw [hnl]; decide) ?_
          dsimp only [lq_st, lq_clr, lq_no]
          refine jj_goto F (tgt := 5) dX1_inForceOf_40 (by decide) ?_
          refine jj_eqL ?_ ih
          first
          | (simp [fb_ct, inF, h20]; done)
          | (simp [fb_ct, inF, h20, h31]; done)
        · refine jj_iinc F dX1_inForceOf_34 rfl (by first | exact iinc1 _ | rfl) (by rw [hnl]; decide) ?_
          dsimp only [lq_st, lq_clr, lq_no]
          refine jj_iinc F dX1_inForceOf_37 rfl (by first | exact iinc1 _ | rfl) (by rw [hnl]; decide) ?_
          dsimp only [lq_st, lq_clr, lq_no]
          refine jj_goto F (tgt := 5) dX1_inForceOf_40 (by decide) ?_
          refine jj_eqL ?_ ih
          first
          | (simp [fb_ct, inF, h20]; done)
          | (simp [fb_ct, inF, h20, h31]; done)
  refine jj_iconst F (v := nI 0) dX1_inForceOf_0 (by decide) ?_
  refine jj_istore_n F dX1_inForceOf_1 (by rw [hnl]; decide) ?_
  dsimp only [lq_st, lq_clr, lq_no]
  refine jj_iconst F (v := nI 0) dX1_inForceOf_2 (by decide) ?_
  refine jj_istore F dX1_inForceOf_3 (by rw [hnl]; decide) ?_
  dsimp only [lq_st, lq_clr, lq_no]
  exact lo 0 (by omega)
def lowF (M : Mm) (A : Nat → Nat → Bool) (t : Int32) (c : Nat) : Nat → Int32
  | 0 => -1
  | i + 1 => if inF M t i = true ∧ A i c = true ∧ (lowF M A t c i = -1 ∨ M.1 189 i < lowF M A t c i) then M.1 189 i else lowF M A t c i
set_option maxRecDepth 100000 in
set_option maxHeartbeats 1000000 in
theorem c_X1_lowestOwner {l : Launch} {E : Ee} {M : Mm} {c : Nat} {t : Int32} {A : Nat → Nat → Bool} (hA : ∀ i, i < 6 → M.1 (191 + 2 * i + 1) = rowsOf (A i)) (hc : c < 256) : CtI l E yX1_lowestOwner (.code yX1_lowestOwner cX1_lowestOwner 5 (some .int) :: gl) ({ frames := 1, cells := 0, slots := 0, locals := 21 } : Room) M [.ref (E.2.2 187), .int (nI c), .int t] 0 0 (fun r M2 => r = lowF M A t c 6 ∧ M2 = M) := by
  refine ctI_of (L0 := [some (.ref (E.2.2 187)), some (.int (nI c)), some (.int t), none, none]) (by decide) rfl (Nat.le_of_ble_eq_true rfl) rfl ?_
  intro Z hl hE hnl F ret
  subst hE
  have in_X1 : ∀ w ∈ u_ws RX1 TX1 3, w ∈ (.code yX1_lowestOwner cX1_lowestOwner 5 (some .int) :: gl) := fun w h => List.mem_cons_of_mem _ (lay_X1 w h)
  have g11 : FG Z 11 1 0 := fg_mk F (C := RX1) (T := TX1) (N := 3) in_X1 rfl (by decide) rfl (List.mem_cons_of_mem _ fk_X1_11)
  have g17 : FG Z 17 1 1 := fg_mk F (C := RX1) (T := TX1) (N := 3) in_X1 rfl (by decide) rfl (List.mem_cons_of_mem _ fk_X1_17)
  have g21 : FG Z 21 1 2 := fg_mk F (C := RX1) (T := TX1) (N := 3) in_X1 rfl (by decide) rfl (List.mem_cons_of_mem _ fk_X1_21)
  have kl := kd_Ls
  have ka := kd_areas
  have kw := kd_owners
  have ke := kd_ends
  have lo : ∀ i, i ≤ 6 → JJ Z (0, 0) (M) 5 [some (.ref ((zE Z).2.2 187)), some (.int (nI c)), some (.int t), some (.int (lowF M A t c i)), some (.int (nI i))] [] := by
    refine jj_loop (6) ?_ ?_
    · refine jj_iload F dX1_lowestOwner_5 rfl ?_
      refine jj_bipush F (v := nI 6) dX1_lowestOwner_7 (by decide) ?_
      refine jj_icmp_ge F (tgt := 67) dX1_lowestOwner_9 (by decide) (fun _ => ?_) (fun h9 => absurd (nI_le (by omega) (by omega)) h9)
      refine jj_iload_n F dX1_lowestOwner_67 rfl ?_
      exact ret _ _ _ _ dX1_lowestOwner_68 rfl ⟨rfl, rfl⟩
    · intro i hi ih
      have cs := cs_ls i hi
      have hAi := hA i hi
      obtain ⟨q0, q1⟩ := id cs
      refine jj_iload F dX1_lowestOwner_5 rfl ?_
      refine jj_bipush F (v := nI 6) dX1_lowestOwner_7 (by decide) ?_
      refine jj_icmp_ge F (tgt := 67) dX1_lowestOwner_9 (by decide) (fun h9 => absurd h9 (nI_ge (by omega) (by omega))) (fun _ => ?_)
      refine jj_iload_n F dX1_lowestOwner_12 rfl ?_
      refine jj_aload_n F dX1_lowestOwner_13 rfl ?_
      refine jj_getr F g21 (by assumption) (by rfl) dX1_lowestOwner_14 ?_
      refine jj_iload F dX1_lowestOwner_17 rfl ?_
      refine jj_iald F (by assumption) rfl (by omega) dX1_lowestOwner_19 ?_
      refine jj_icmp_ge F (tgt := 61) dX1_lowestOwner_20 (by decide) (fun h20 => ?_) (fun h20 => ?_)
      · refine jj_iinc F dX1_lowestOwner_61 rfl (by first | exact iinc1 _ | rfl) (by rw [hnl]; decide) ?_
        dsimp only [lq_st, lq_clr, lq_no]
        refine jj_goto F (tgt := 5) dX1_lowestOwner_64 (by decide) ?_
        refine jj_eqL ?_ ih
        try rw [b2i_0] at h34
        try rw [b2i_n0] at h34
        first
        | (simp [lowF, inF, h20]; done)
        | (simp [lowF, inF, h20, h34]; done)
        | (simp [lowF, inF, h20, h34, h39]; done)
        | (simp [lowF, inF, h20, h34, h39, i32_le_nlt h50]; done)
        | (simp [lowF, inF, h20, h34, h39, i32_nle h50]; done)
      · refine jj_aload_n F dX1_lowestOwner_23 rfl ?_
        refine jj_getr F g11 (by assumption) (by rfl) dX1_lowestOwner_24 ?_
        refine jj_iload F dX1_lowestOwner_27 rfl ?_
        refine jj_aald F (by assumption) rfl (by omega) dX1_lowestOwner_29 ?_
        refine jj_iload_n F dX1_lowestOwner_30 rfl ?_
        refine jj_callVi (na := 1) F (c_X0_contains (by assumption) (by assumption) (by omega)) (gl_V mk_X1_25 vw_X0_contains) rfl rfl rfl (by decide +kernel) ⟨Nat.le_of_ble_eq_true rfl, Nat.le_of_ble_eq_true rfl⟩ (by assumption) rfl rfl rfl (Nat.le_of_ble_eq_true rfl) ⟨Nat.le_of_ble_eq_true rfl, Nat.le_of_ble_eq_true rfl⟩ dX1_lowestOwner_31 (fun r31 M31 hp31 => ?_)
        obtain ⟨rfl, rfl⟩ := symm2 hp31
        refine jj_if_eq F (tgt := 61) dX1_lowestOwner_34 (by decide) (fun h34 => ?_) (fun h34 => ?_)
        · refine jj_iinc F dX1_lowestOwner_61 rfl (by first | exact iinc1 _ | rfl) (by rw [hnl]; decide) ?_
          dsimp only [lq_st, lq_clr, lq_no]
          refine jj_goto F (tgt := 5) dX1_lowestOwner_64 (by decide) ?_
          refine jj_eqL ?_ ih
          try rw [b2i_0] at h34
          try rw [b2i_n0] at h34
          first
          | (simp [lowF, inF, h20]; done)
          | (simp [lowF, inF, h20, h34]; done)
          | (simp [lowF, inF, h20, h34, h39]; done)
          | (simp [lowF, inF, h20, h34, h39, i32_le_nlt h50]; done)
          | (simp [lowF, inF, h20, h34, h39, i32_nle h50]; done)
        · refine jj_iload_n F dX1_lowestOwner_37 rfl ?_
          refine jj_iconst F (v := -1) dX1_lowestOwner_38 (by decide) ?_
          refine jj_icmp_eq F (tgt := 53) dX1_lowestOwner_39 (by decide) (fun h39 => ?_) (fun h39 => ?_)
          · refine jj_aload_n F dX1_lowestOwner_53 rfl ?_
            refine jj_getr F g17 (by assumption) (by rfl) dX1_lowestOwner_54 ?_
            refine jj_iload F dX1_lowestOwner_57 rfl ?_
            refine jj_iald F (by assumption) rfl (by omega) dX1_lowestOwner_59 ?_
            refine jj_istore_n F dX1_lowestOwner_60 (by rw [hnl]; decide) ?_
            dsimp only [lq_st, lq_clr, lq_no]
            refine jj_iinc F dX1_lowestOwner_61 rfl (by first | exact iinc1 _ | rfl) (by rw [hnl]; decide) ?_
            dsimp only [lq_st, lq_clr, lq_no]
            refine jj_goto F (tgt := 5) dX1_lowestOwner_64 (by decide) ?_
            refine jj_eqL ?_ ih
            try rw [b2i_0] at h34
            try rw [b2i_n0] at h34
            first
            | (simp [lowF, inF, h20]; done)
            | (simp [lowF, inF, h20, h34]; done)
            | (simp [lowF, inF, h20, h34, h39]; done)
            | (simp [lowF, inF, h20, h34, h39, i32_le_nlt h50]; done)
            | (simp [lowF, inF, h20, h34, h39, i32_nle h50]; done)
          · refine jj_aload_n F dX1_lowestOwner_42 rfl ?_
            refine jj_getr F g17 (by assumption) (by rfl) dX1_lowestOwner_43 ?_
            refine jj_iload F dX1_lowestOwner_46 rfl ?_
            refine jj_iald F (by assumption) rfl (by omega) dX1_lowestOwner_48 ?_
            refine jj_iload_n F dX1_lowestOwner_49 rfl ?_
            refine jj_icmp_ge F (tgt := 61) dX1_lowestOwner_50 (by decide) (fun h50 => ?_) (fun h50 => ?_)
            · refine jj_iinc F dX1_lowestOwner_61 rfl (by first | exact iinc1 _ | rfl) (by rw [hnl]; decide) ?_
              dsimp only [lq_st, lq_clr, lq_no]
              refine jj_goto F (tgt := 5) dX1_lowestOwner_64 (by decide) ?_
              refine jj_eqL ?_ ih
              try rw [b2i_0] at h34
              try rw [b2i_n0] at h34
              first
              | (simp [lowF, inF, h20]; done)
              | (simp [lowF, inF, h20, h34]; done)
              | (simp [lowF, inF, h20, h34, h39]; done)
              | (simp [lowF, inF, h20, h34, h39, i32_le_nlt h50]; done)
              | (simp [lowF, inF, h20, h34, h39, i32_nle h50]; done)
            · refine jj_aload_n F dX1_lowestOwner_53 rfl ?_
              refine jj_getr F g17 (by assumption) (by rfl) dX1_lowestOwner_54 ?_
              refine jj_iload F dX1_lowestOwner_57 rfl ?_
              refine jj_iald F (by assumption) rfl (by omega) dX1_lowestOwner_59 ?_
              refine jj_istore_n F dX1_lowestOwner_60 (by rw [hnl]; decide) ?_
              dsimp only [lq_st, lq_clr, lq_no]
              refine jj_iinc F dX1_lowestOwner_61 rfl (by first | exact iinc1 _ | rfl) (by rw [hnl]; decide) ?_
              dsimp only [lq_st, lq_clr, lq_no]
              refine jj_goto F (tgt := 5) dX1_lowestOwner_64 (by decide) ?_
              refine jj_eqL ?_ ih
              try rw [b2i_0] at h34
              try rw [b2i_n0] at h34
              first
              | (simp [lowF, inF, h20]; done)
              | (simp [lowF, inF, h20, h34]; done)
              | (simp [lowF, inF, h20, h34, h39]; done)
              | (simp [lowF, inF, h20, h34, h39, i32_le_nlt h50]; done)
              | (simp [lowF, inF, h20, h34, h39, i32_nle h50]; done)
  refine jj_iconst F (v := -1) dX1_lowestOwner_0 (by decide) ?_
  refine jj_istore_n F dX1_lowestOwner_1 (by rw [hnl]; decide) ?_
  dsimp only [lq_st, lq_clr, lq_no]
  refine jj_iconst F (v := nI 0) dX1_lowestOwner_2 (by decide) ?_
  refine jj_istore F dX1_lowestOwner_3 (by rw [hnl]; decide) ?_
  dsimp only [lq_st, lq_clr, lq_no]
  exact lo 0 (by omega)
/-- what is closed for a user -/
def cloF (M : Mm) (A : Nat → Nat → Bool) (t u : Int32) (n c : Nat) : Bool := exB n (fun i => inF M t i && !decide (M.1 189 i = u) && A i c)
set_option maxRecDepth 100000 in
set_option maxHeartbeats 1000000 in
theorem c_X1_collectClosed {l : Launch} {E : Ee} {M : Mm} {k : Nat} {u t : Int32} {A : Nat → Nat → Bool} (hA : ∀ i, i < 6 → M.1 (191 + 2 * i + 1) = rowsOf (A i)) (hk : isCS k) (hkn : ∀ i, i < 6 → 191 + 2 * i + 1 ≠ k + 1) : CtV l E yX1_collectClosed (.code yX1_collectClosed cX1_collectClosed 5 none :: gl) ({ frames := 1, cells := 0, slots := 0, locals := 22 } : Room) M [.ref (E.2.2 187), .int u, .int t, .ref (E.2.2 k)] 0 0 (fun M2 => M2 = wA M (k + 1) (rowsOf (cloF M A t u 6))) := by
  refine ctV_of (L0 := [some (.ref (E.2.2 187)), some (.int u), some (.int t), some (.ref (E.2.2 k)), none]) (by decide) rfl (Nat.le_of_ble_eq_true rfl) rfl ?_
  intro Z hl hE hnl F ret
  subst hE
  have in_X1 : ∀ w ∈ u_ws RX1 TX1 3, w ∈ (.code yX1_collectClosed cX1_collectClosed 5 none :: gl) := fun w h => List.mem_cons_of_mem _ (lay_X1 w h)
  have g11 : FG Z 11 1 0 := fg_mk F (C := RX1) (T := TX1) (N := 3) in_X1 rfl (by decide) rfl (List.mem_cons_of_mem _ fk_X1_11)
  have g17 : FG Z 17 1 1 := fg_mk F (C := RX1) (T := TX1) (N := 3) in_X1 rfl (by decide) rfl (List.mem_cons_of_mem _ fk_X1_17)
  have g21 : FG Z 21 1 2 := fg_mk F (C := RX1) (T := TX1) (N := 3) in_X1 rfl (by decide) rfl (List.mem_cons_of_mem _ fk_X1_21)
  have kl := kd_Ls
  have ka := kd_areas
  have kw := kd_owners
  have ke := kd_ends
  obtain ⟨h0, h1⟩ := id hk
  have lo : ∀ i, i ≤ 6 → JJ Z (0, 0) (wA M (k + 1) (rowsOf (cloF M A t u i))) 7 [some (.ref ((zE Z).2.2 187)), some (.int u), some (.int t), some (.ref ((zE Z).2.2 k)), some (.int (nI i))] [] := by
    refine jj_loop (6) ?_ ?_
    · refine jj_iload F dX1_collectClosed_7 rfl ?_
      refine jj_bipush F (v := nI 6) dX1_collectClosed_9 (by decide) ?_
      refine jj_icmp_ge F (tgt := 53) dX1_collectClosed_11 (by decide) (fun _ => ?_) (fun h9 => absurd (nI_le (by omega) (by omega)) h9)
      exact ret _ _ _ dX1_collectClosed_53 rfl
    · intro i hi ih
      have cs := cs_ls i hi
      have hAi := hA i hi
      have hki := hkn i hi
      obtain ⟨q0, q1⟩ := id cs
      have e9 : (190 : Nat) ≠ k + 1 := by intro e9; rw [← e9, ke] at h1; cases h1
      have e8 : (189 : Nat) ≠ k + 1 := by intro e9; rw [← e9, kw] at h1; cases h1
      refine jj_iload F dX1_collectClosed_7 rfl ?_
      refine jj_bipush F (v := nI 6) dX1_collectClosed_9 (by decide) ?_
      refine jj_icmp_ge F (tgt := 53) dX1_collectClosed_11 (by decide) (fun h9 => absurd h9 (nI_ge (by omega) (by omega))) (fun _ => ?_)
      refine jj_iload_n F dX1_collectClosed_14 rfl ?_
      refine jj_aload_n F dX1_collectClosed_15 rfl ?_
      refine jj_getr F g21 (by assumption) (by rfl) dX1_collectClosed_16 ?_
      refine jj_iload F dX1_collectClosed_19 rfl ?_
      refine jj_iald F (by assumption) rfl (by omega) dX1_collectClosed_21 ?_
      rw [wA_n e9]
      refine jj_icmp_ge F (tgt := 47) dX1_collectClosed_22 (by decide) (fun h22 => ?_) (fun h22 => ?_)
      · refine jj_iinc F dX1_collectClosed_47 rfl (by first | exact iinc1 _ | rfl) (by rw [hnl]; decide) ?_
        dsimp only [lq_st, lq_clr, lq_no]
        refine jj_goto F (tgt := 7) dX1_collectClosed_50 (by decide) ?_
        refine jj_eqM ?_ ih
        congr 1
        congr 1
        funext c
        first
        | (simp [cloF, exB, inF, h22]; done)
        | (simp [cloF, exB, inF, h22, h33]; done)
      · refine jj_aload_n F dX1_collectClosed_25 rfl ?_
        refine jj_getr F g17 (by assumption) (by rfl) dX1_collectClosed_26 ?_
        refine jj_iload F dX1_collectClosed_29 rfl ?_
        refine jj_iald F (by assumption) rfl (by omega) dX1_collectClosed_31 ?_
        rw [wA_n e8]
        refine jj_iload_n F dX1_collectClosed_32 rfl ?_
        refine jj_icmp_eq F (tgt := 47) dX1_collectClosed_33 (by decide) (fun h33 => ?_) (fun h33 => ?_)
        · refine jj_iinc F dX1_collectClosed_47 rfl (by first | exact iinc1 _ | rfl) (by rw [hnl]; decide) ?_
          dsimp only [lq_st, lq_clr, lq_no]
          refine jj_goto F (tgt := 7) dX1_collectClosed_50 (by decide) ?_
          refine jj_eqM ?_ ih
          congr 1
          congr 1
          funext c
          first
          | (simp [cloF, exB, inF, h22]; done)
          | (simp [cloF, exB, inF, h22, h33]; done)
        · refine jj_aload_n F dX1_collectClosed_36 rfl ?_
          refine jj_aload_n F dX1_collectClosed_37 rfl ?_
          refine jj_getr F g11 (by assumption) (by rfl) dX1_collectClosed_38 ?_
          refine jj_iload F dX1_collectClosed_41 rfl ?_
          refine jj_aald F (by assumption) rfl (by omega) dX1_collectClosed_43 ?_
          refine jj_callVv (na := 1) F (c_X0_addAll (k := k) (j := 191 + 2 * i) hk cs (fun e => hki e) (wA_s _ _ _) (by rw [wA_n hki]; exact hAi)) (gl_V mk_X1_32 vw_X0_addAll) rfl rfl rfl (by decide +kernel) ⟨Nat.le_of_ble_eq_true rfl, Nat.le_of_ble_eq_true rfl⟩ (by assumption) rfl rfl rfl (Nat.le_of_ble_eq_true rfl) ⟨Nat.le_of_ble_eq_true rfl, Nat.le_of_ble_eq_true rfl⟩ dX1_collectClosed_44 (fun M44 hp44 => ?_)
          subst hp44
          rw [wA_wA]
          refine jj_iinc F dX1_collectClosed_47 rfl (by first | exact iinc1 _ | rfl) (by rw [hnl]; decide) ?_
          dsimp only [lq_st, lq_clr, lq_no]
          refine jj_goto F (tgt := 7) dX1_collectClosed_50 (by decide) ?_
          refine jj_eqM ?_ ih
          congr 1
          congr 1
          funext c
          first
          | (simp [cloF, exB, inF, h22]; done)
          | (simp [cloF, exB, inF, h22, h33]; done)
  refine jj_aload_n F dX1_collectClosed_0 rfl ?_
  refine jj_callVv (na := 0) F (c_X0_becomeEmpty (by assumption)) (gl_V mk_X1_29 vw_X0_becomeEmpty) rfl rfl rfl (by decide +kernel) ⟨Nat.le_of_ble_eq_true rfl, Nat.le_of_ble_eq_true rfl⟩ (by assumption) rfl rfl rfl (Nat.le_of_ble_eq_true rfl) ⟨Nat.le_of_ble_eq_true rfl, Nat.le_of_ble_eq_true rfl⟩ dX1_collectClosed_1 (fun M1 hp1 => ?_)
  obtain rfl := hp1.symm
  refine jj_iconst F (v := nI 0) dX1_collectClosed_4 (by decide) ?_
  refine jj_istore F dX1_collectClosed_5 (by rw [hnl]; decide) ?_
  dsimp only [lq_st, lq_clr, lq_no]
  exact lo 0 (by omega)
