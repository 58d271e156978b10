set_option maxRecDepth 100000 in
set_option maxHeartbeats 1000000 in
theorem c_X7_becomeBlank {l : Launch} {E : Ee} {M : Mm} {b : Nat} (hs : isSc b) : CtV l E yX7_becomeBlank (.code yX7_becomeBlank cX7_becomeBlank 2 none :: gl) ({ frames := 0, cells := 0, slots := 0, locals := 0 } : Room) M [.ref (E.2.2 b)] 0 0 (fun M2 => M2 = wA (wA M (b + 2) (fun _ => -1)) (b + 3) (fun _ => nI 0)) := by
  refine ctV_of (L0 := [some (.ref (E.2.2 b)), none]) (by decide) rfl (Nat.le_of_ble_eq_true rfl) rfl ?_
  intro Z hl hE hnl F ret
  subst hE
  have in_X7 : ∀ w ∈ u_ws RX7 TX7 4, w ∈ (.code yX7_becomeBlank cX7_becomeBlank 2 none :: gl) := fun w h => List.mem_cons_of_mem _ (lay_X7 w h)
  have g17 : FG Z 17 7 1 := fg_mk F (C := RX7) (T := TX7) (N := 4) in_X7 rfl (by decide) rfl (List.mem_cons_of_mem _ fk_X7_17)
  have g21 : FG Z 21 7 2 := fg_mk F (C := RX7) (T := TX7) (N := 4) in_X7 rfl (by decide) rfl (List.mem_cons_of_mem _ fk_X7_21)
  have k0 := kd_sc0 hs
  have k1 := kd_sc1 hs
  have k2 := kd_sc2 hs
  have k3 := kd_sc3 hs
  have k4 := kd_sc4 hs
  have hbb : b = 204 ∨ b = 329 := hs
  have lo : ∀ i, i ≤ 256 → JJ Z (0, 0) (wA (wA M (b + 2) (fl i (fun _ => -1) (M.1 (b + 2)))) (b + 3) (fl i (fun _ => nI 0) (M.1 (b + 3)))) 2 [some (.ref ((zE Z).2.2 b)), some (.int (nI i))] [] := by
    refine jj_loop (256) ?_ ?_
    · refine jj_iload_n F dX7_becomeBlank_2 rfl ?_
      refine jj_sipush F (v := nI 256) dX7_becomeBlank_3 (by decide) ?_
      refine jj_icmp_ge F (tgt := 29) dX7_becomeBlank_6 (by decide) (fun _ => ?_) (fun h9 => absurd (nI_le (by omega) (by omega)) h9)
      refine jj_eqv (meq_fl k3) ?_
      rw [wA_comm (by omega)]
      refine jj_eqv (meq_fl k2) ?_
      rw [wA_comm (by omega)]
      exact ret _ _ _ dX7_becomeBlank_29 rfl
    · intro i hi ih
      refine jj_iload_n F dX7_becomeBlank_2 rfl ?_
      refine jj_sipush F (v := nI 256) dX7_becomeBlank_3 (by decide) ?_
      refine jj_icmp_ge F (tgt := 29) dX7_becomeBlank_6 (by decide) (fun h9 => absurd h9 (nI_ge (by omega) (by omega))) (fun _ => ?_)
      refine jj_aload_n F dX7_becomeBlank_9 rfl ?_
      refine jj_getr F g17 (by assumption) (by rfl) dX7_becomeBlank_10 ?_
      refine jj_iload_n F dX7_becomeBlank_13 rfl ?_
      refine jj_iconst F (v := -1) dX7_becomeBlank_14 (by decide) ?_
      refine jj_iast F (by assumption) rfl (by omega) dX7_becomeBlank_15 ?_
      refine jj_aload_n F dX7_becomeBlank_16 rfl ?_
      refine jj_getr F g21 (by assumption) (by rfl) dX7_becomeBlank_17 ?_
      refine jj_iload_n F dX7_becomeBlank_20 rfl ?_
      refine jj_iconst F (v := nI 0) dX7_becomeBlank_21 (by decide) ?_
      refine jj_iast F (by assumption) rfl (by omega) dX7_becomeBlank_22 ?_
      refine jj_iinc F dX7_becomeBlank_23 rfl (by first | exact iinc1 _ | rfl) (by rw [hnl]; decide) ?_
      dsimp only [lq_st, lq_clr, lq_no]
      refine jj_goto F (tgt := 2) dX7_becomeBlank_26 (by decide) ?_
      refine jj_eqM ?_ ih
      rw [two_step (by omega), fl_s rfl, fl_s rfl]
  refine jj_iconst F (v := nI 0) dX7_becomeBlank_0 (by decide) ?_
  refine jj_istore_n F dX7_becomeBlank_1 (by rw [hnl]; decide) ?_
  dsimp only [lq_st, lq_clr, lq_no]
  refine jj_eqM ?_ (lo 0 (by omega))
  rw [fl_z, fl_z, wA_same, wA_same]
set_option maxRecDepth 100000 in
set_option maxHeartbeats 1000000 in
theorem c_X7_paintRow {l : Launch} {E : Ee} {M : Mm} {b k : Nat} {S : Nat → Bool} {col : Int32} (hs : isSc b) (hk : k < 60) (hS : M.1 (b + 5 + 2 * k + 1) = rowsOf S) {y : Nat} (hy : y < 16) : CtV l E yX7_paintRow (.code yX7_paintRow cX7_paintRow 6 none :: gl) ({ frames := 1, cells := 0, slots := 0, locals := 21 } : Room) M [.ref (E.2.2 b), .int (nI k), .int col, .int (nI y)] 0 0 (fun M2 => M2 = wA (wA M (b + 2) (fun c => if c / 16 = y ∧ S c = true then nI k else M.1 (b + 2) c)) (b + 3) (fun c => if c / 16 = y ∧ S c = true then col else M.1 (b + 3) c)) := by
  refine ctV_of (L0 := [some (.ref (E.2.2 b)), some (.int (nI k)), some (.int col), some (.int (nI y)), none, none]) (by decide) rfl (Nat.le_of_ble_eq_true rfl) rfl ?_
  intro Z hl hE hnl F ret
  subst hE
  have in_X7 : ∀ w ∈ u_ws RX7 TX7 4, w ∈ (.code yX7_paintRow cX7_paintRow 6 none :: gl) := fun w h => List.mem_cons_of_mem _ (lay_X7 w h)
  have g11 : FG Z 11 7 0 := fg_mk F (C := RX7) (T := TX7) (N := 4) in_X7 rfl (by decide) rfl (List.mem_cons_of_mem _ fk_X7_11)
  have g17 : FG Z 17 7 1 := fg_mk F (C := RX7) (T := TX7) (N := 4) in_X7 rfl (by decide) rfl (List.mem_cons_of_mem _ fk_X7_17)
  have g21 : FG Z 21 7 2 := fg_mk F (C := RX7) (T := TX7) (N := 4) in_X7 rfl (by decide) rfl (List.mem_cons_of_mem _ fk_X7_21)
  have k0 := kd_sc0 hs
  have k1 := kd_sc1 hs
  have k2 := kd_sc2 hs
  have k3 := kd_sc3 hs
  have k4 := kd_sc4 hs
  have hbb : b = 204 ∨ b = 329 := hs
  have lo : ∀ i, i ≤ 16 → JJ Z (0, 0) (wA (wA M (b + 2) (fun c => if c / 16 = y ∧ c % 16 < i ∧ S c = true then nI k else M.1 (b + 2) c)) (b + 3) (fun c => if c / 16 = y ∧ c % 16 < i ∧ S c = true then col else M.1 (b + 3) c)) 3 [some (.ref ((zE Z).2.2 b)), some (.int (nI k)), some (.int col), some (.int (nI y)), some (.int (nI i)), none] [] := by
    refine jj_loop (16) ?_ ?_
    · refine jj_iload F dX7_paintRow_3 rfl ?_
      refine jj_bipush F (v := nI 16) dX7_paintRow_5 (by decide) ?_
      refine jj_icmp_ge F (tgt := 55) dX7_paintRow_7 (by decide) (fun _ => ?_) (fun h9 => absurd (nI_le (by omega) (by omega)) h9)
      refine ret _ _ _ dX7_paintRow_55 ?_
      rw [pr_e, pr_e]
    · intro i hi ih
      have csl := cs_sc hs k hk
      obtain ⟨l0, l1⟩ := id csl
      have hSi : (wA (wA M (b + 2) (fun c => if c / 16 = y ∧ c % 16 < i ∧ S c = true then nI k else M.1 (b + 2) c)) (b + 3) (fun c => if c / 16 = y ∧ c % 16 < i ∧ S c = true then col else M.1 (b + 3) c)).1 (b + 5 + 2 * k + 1) = rowsOf S := by rw [wA_n (by omega), wA_n (by omega)]; exact hS
      refine jj_iload F dX7_paintRow_3 rfl ?_
      refine jj_bipush F (v := nI 16) dX7_paintRow_5 (by decide) ?_
      refine jj_icmp_ge F (tgt := 55) dX7_paintRow_7 (by decide) (fun h9 => absurd h9 (nI_ge (by omega) (by omega))) (fun _ => ?_)
      refine jj_bipush F (v := nI 16) dX7_paintRow_10 (by decide) ?_
      refine jj_iload_n F dX7_paintRow_12 rfl ?_
      refine jj_imul F dX7_paintRow_13 ?_
      refine jj_iload F dX7_paintRow_14 rfl ?_
      refine jj_iadd F dX7_paintRow_16 ?_
      rw [pk_mul, nI_add]
      refine jj_istore F dX7_paintRow_17 (by rw [hnl]; decide) ?_
      dsimp only [lq_st, lq_clr, lq_no]
      refine jj_aload_n F dX7_paintRow_19 rfl ?_
      refine jj_getr F g11 (by assumption) (by rfl) dX7_paintRow_20 ?_
      refine jj_iload_n F dX7_paintRow_23 rfl ?_
      refine jj_aald F (by assumption) rfl (by omega) dX7_paintRow_24 ?_
      refine jj_iload F dX7_paintRow_25 rfl ?_
      refine jj_callVi (na := 1) F (c_X0_contains (by assumption) (by assumption) (by omega)) (gl_V mk_X7_102 vw_X0_contains) rfl rfl rfl (by decide +kernel) ⟨Nat.le_of_ble_eq_true rfl, Nat.le_of_ble_eq_true rfl⟩ (by assumption) rfl rfl rfl (Nat.le_of_ble_eq_true rfl) ⟨Nat.le_of_ble_eq_true rfl, Nat.le_of_ble_eq_true rfl⟩ dX7_paintRow_27 (fun r27 M27 hp27 => ?_)
      obtain ⟨rfl, rfl⟩ := symm2 hp27
      refine jj_if_eq F (tgt := 49) dX7_paintRow_30 (by decide) (fun h30 => ?_) (fun h30 => ?_)
      · refine jj_iinc F dX7_paintRow_49 rfl (by first | exact iinc1 _ | rfl) (by rw [hnl]; decide) ?_
        dsimp only [lq_st, lq_clr, lq_no]
        refine jj_goto F (tgt := 3) dX7_paintRow_52 (by decide) ?_
        refine jj_less (L2 := [some (.ref ((zE Z).2.2 b)), some (.int (nI k)), some (.int col), some (.int (nI y)), some (.int (nI (i + 1))), none]) (less5 _ _ _ _ _ _) ?_
        refine jj_eqM ?_ ih
        first
        | (rw [b2i_n0] at h30; rw [two_step (by omega), pr_step h30 hi, pr_step h30 hi]; done)
        | (rw [b2i_0] at h30; rw [pr_skip (v := nI k) h30 hi, pr_skip (v := col) h30 hi]; done)
      · refine jj_aload_n F dX7_paintRow_33 rfl ?_
        refine jj_getr F g17 (by assumption) (by rfl) dX7_paintRow_34 ?_
        refine jj_iload F dX7_paintRow_37 rfl ?_
        refine jj_iload_n F dX7_paintRow_39 rfl ?_
        refine jj_iast F (by assumption) rfl (by omega) dX7_paintRow_40 ?_
        refine jj_aload_n F dX7_paintRow_41 rfl ?_
        refine jj_getr F g21 (by assumption) (by rfl) dX7_paintRow_42 ?_
        refine jj_iload F dX7_paintRow_45 rfl ?_
        refine jj_iload_n F dX7_paintRow_47 rfl ?_
        refine jj_iast F (by assumption) rfl (by omega) dX7_paintRow_48 ?_
        refine jj_iinc F dX7_paintRow_49 rfl (by first | exact iinc1 _ | rfl) (by rw [hnl]; decide) ?_
        dsimp only [lq_st, lq_clr, lq_no]
        refine jj_goto F (tgt := 3) dX7_paintRow_52 (by decide) ?_
        refine jj_less (L2 := [some (.ref ((zE Z).2.2 b)), some (.int (nI k)), some (.int col), some (.int (nI y)), some (.int (nI (i + 1))), none]) (less5 _ _ _ _ _ _) ?_
        refine jj_eqM ?_ ih
        first
        | (rw [b2i_n0] at h30; rw [two_step (by omega), pr_step h30 hi, pr_step h30 hi]; done)
        | (rw [b2i_0] at h30; rw [pr_skip (v := nI k) h30 hi, pr_skip (v := col) h30 hi]; done)
  refine jj_iconst F (v := nI 0) dX7_paintRow_0 (by decide) ?_
  refine jj_istore F dX7_paintRow_1 (by rw [hnl]; decide) ?_
  dsimp only [lq_st, lq_clr, lq_no]
  refine jj_eqM ?_ (lo 0 (by omega))
  rw [← pr_0, ← pr_0, wA_same, wA_same]
set_option maxRecDepth 100000 in
set_option maxHeartbeats 1000000 in
theorem c_X7_paint {l : Launch} {E : Ee} {M : Mm} {b k : Nat} {S : Nat → Bool} {col : Int32} (hs : isSc b) (hk : k < 60) (hS : M.1 (b + 5 + 2 * k + 1) = rowsOf S) : CtV l E yX7_paint (.code yX7_paint cX7_paint 4 none :: gl) ({ frames := 2, cells := 0, slots := 0, locals := 46 } : Room) M [.ref (E.2.2 b), .int (nI k), .int col] 0 0 (fun M2 => M2 = wA (wA M (b + 2) (fun c => if S c = true then nI k else M.1 (b + 2) c)) (b + 3) (fun c => if S c = true then col else M.1 (b + 3) c)) := by
  refine ctV_of (L0 := [some (.ref (E.2.2 b)), some (.int (nI k)), some (.int col), none]) (by decide) rfl (Nat.le_of_ble_eq_true rfl) rfl ?_
  intro Z hl hE hnl F ret
  subst hE
  have in_X0 : ∀ w ∈ u_ws RX0 TX0 1, w ∈ (.code yX7_paint cX7_paint 4 none :: gl) := fun w h => List.mem_cons_of_mem _ (lay_X0 w h)
  have in_X7 : ∀ w ∈ u_ws RX7 TX7 4, w ∈ (.code yX7_paint cX7_paint 4 none :: gl) := fun w h => List.mem_cons_of_mem _ (lay_X7 w h)
  have g11 : FG Z 11 7 0 := fg_mk F (C := RX7) (T := TX7) (N := 4) in_X7 rfl (by decide) rfl (List.mem_cons_of_mem _ fk_X7_11)
  have g95 : FG Z 95 0 0 := fg_mk F (C := RX0) (T := TX0) (N := 1) in_X0 rfl (by decide) rfl (List.mem_cons_of_mem _ fk_X7_95)
  have k0 := kd_sc0 hs
  have k1 := kd_sc1 hs
  have k2 := kd_sc2 hs
  have k3 := kd_sc3 hs
  have k4 := kd_sc4 hs
  have hbb : b = 204 ∨ b = 329 := hs
  have lo : ∀ i, i ≤ 16 → JJ Z (0, 0) (wA (wA M (b + 2) (fun c => if c / 16 < i ∧ S c = true then nI k else M.1 (b + 2) c)) (b + 3) (fun c => if c / 16 < i ∧ S c = true then col else M.1 (b + 3) c)) 2 [some (.ref ((zE Z).2.2 b)), some (.int (nI k)), some (.int col), some (.int (nI i))] [] := by
    refine jj_loop (16) ?_ ?_
    · refine jj_iload_n F dX7_paint_2 rfl ?_
      refine jj_bipush F (v := nI 16) dX7_paint_3 (by decide) ?_
      refine jj_icmp_ge F (tgt := 35) dX7_paint_5 (by decide) (fun _ => ?_) (fun h9 => absurd (nI_le (by omega) (by omega)) h9)
      refine jj_eqv (meq_wA (g := fun c => if S c = true then col else M.1 (b + 3) c) k3 (fun c hc => by simp [show c / 16 < 16 by omega])) ?_
      rw [wA_comm (by omega)]
      refine jj_eqv (meq_wA (g := fun c => if S c = true then nI k else M.1 (b + 2) c) k2 (fun c hc => by simp [show c / 16 < 16 by omega])) ?_
      rw [wA_comm (by omega)]
      exact ret _ _ _ dX7_paint_35 rfl
    · intro i hi ih
      have csl := cs_sc hs k hk
      obtain ⟨l0, l1⟩ := id csl
      have hSi : (wA (wA M (b + 2) (fun c => if c / 16 < i ∧ S c = true then nI k else M.1 (b + 2) c)) (b + 3) (fun c => if c / 16 < i ∧ S c = true then col else M.1 (b + 3) c)).1 (b + 5 + 2 * k + 1) = rowsOf S := by rw [wA_n (by omega), wA_n (by omega)]; exact hS
      refine jj_iload_n F dX7_paint_2 rfl ?_
      refine jj_bipush F (v := nI 16) dX7_paint_3 (by decide) ?_
      refine jj_icmp_ge F (tgt := 35) dX7_paint_5 (by decide) (fun h9 => absurd h9 (nI_ge (by omega) (by omega))) (fun _ => ?_)
      refine jj_aload_n F dX7_paint_8 rfl ?_
      refine jj_getr F g11 (by assumption) (by rfl) dX7_paint_9 ?_
      refine jj_iload_n F dX7_paint_12 rfl ?_
      refine jj_aald F (by assumption) rfl (by omega) dX7_paint_13 ?_
      refine jj_getr F g95 (by assumption) (by rfl) dX7_paint_14 ?_
      refine jj_iload_n F dX7_paint_17 rfl ?_
      refine jj_iald F (by assumption) rfl (by omega) dX7_paint_18 ?_
      rw [hSi]
      refine jj_if_eq F (tgt := 29) dX7_paint_19 (by decide) (fun h19 => ?_) (fun h19 => ?_)
      · refine jj_iinc F dX7_paint_29 rfl (by first | exact iinc1 _ | rfl) (by rw [hnl]; decide) ?_
        dsimp only [lq_st, lq_clr, lq_no]
        refine jj_goto F (tgt := 2) dX7_paint_32 (by decide) ?_
        refine jj_eqM ?_ ih
        first
        | (rw [rows_is0] at h19; rw [pq_skip (v := nI k) h19, pq_skip (v := col) h19]; done)
        | (rw [wA_s, wA_n (show b + 2 ≠ b + 3 by omega), wA_s, two_over (by omega), pq_step, pq_step]; done)
      · refine jj_aload_n F dX7_paint_22 rfl ?_
        refine jj_iload_n F dX7_paint_23 rfl ?_
        refine jj_iload_n F dX7_paint_24 rfl ?_
        refine jj_iload_n F dX7_paint_25 rfl ?_
        refine jj_callVv (na := 3) F (c_X7_paintRow hs hk hSi hi) (gl_V mk_X7_98 vw_X7_paintRow) rfl rfl rfl (by decide +kernel) ⟨Nat.le_of_ble_eq_true rfl, Nat.le_of_ble_eq_true rfl⟩ (by assumption) rfl rfl rfl (Nat.le_of_ble_eq_true rfl) ⟨Nat.le_of_ble_eq_true rfl, Nat.le_of_ble_eq_true rfl⟩ dX7_paint_26 (fun M26 hp26 => ?_)
        obtain rfl := hp26.symm
        refine jj_iinc F dX7_paint_29 rfl (by first | exact iinc1 _ | rfl) (by rw [hnl]; decide) ?_
        dsimp only [lq_st, lq_clr, lq_no]
        refine jj_goto F (tgt := 2) dX7_paint_32 (by decide) ?_
        refine jj_eqM ?_ ih
        first
        | (rw [rows_is0] at h19; rw [pq_skip (v := nI k) h19, pq_skip (v := col) h19]; done)
        | (rw [wA_s, wA_n (show b + 2 ≠ b + 3 by omega), wA_s, two_over (by omega), pq_step, pq_step]; done)
  refine jj_iconst F (v := nI 0) dX7_paint_0 (by decide) ?_
  refine jj_istore_n F dX7_paint_1 (by rw [hnl]; decide) ?_
  dsimp only [lq_st, lq_clr, lq_no]
  refine jj_eqM ?_ (lo 0 (by omega))
  have e0 : ∀ (g : Nat → Int32) (v : Int32), (fun c => if c / 16 < 0 ∧ S c = true then v else g c) = g := fun g v => by funext c; rw [if_neg (by omega)]
  rw [e0, e0, wA_same, wA_same]
theorem less2 (a b c : Option Value) : ∀ (i : Nat) (v : Value), ([a, b, none] : List (Option Value))[i]? = some (some v) → ([a, b, c] : List (Option Value))[i]? = some (some v)
  | 0, _, h => h
  | 1, _, h => h
  | 2, _, h => by simp at h
  | n + 3, _, h => by simp at h
set_option maxRecDepth 100000 in
set_option maxHeartbeats 1000000 in
theorem c_X7_countTops {l : Launch} {E : Ee} {M : Mm} {b : Nat} (hs : isSc b) : CtV l E yX7_countTops (.code yX7_countTops cX7_countTops 3 none :: gl) ({ frames := 0, cells := 0, slots := 0, locals := 0 } : Room) M [.ref (E.2.2 b)] 0 0 (fun M2 => M2 = wA M (b + 4) (OF (M.1 (b + 2)) 256)) := by
  refine ctV_of (L0 := [some (.ref (E.2.2 b)), none, none]) (by decide) rfl (Nat.le_of_ble_eq_true rfl) rfl ?_
  intro Z hl hE hnl F ret
  subst hE
  have in_X7 : ∀ w ∈ u_ws RX7 TX7 4, w ∈ (.code yX7_countTops cX7_countTops 3 none :: gl) := fun w h => List.mem_cons_of_mem _ (lay_X7 w h)
  have g17 : FG Z 17 7 1 := fg_mk F (C := RX7) (T := TX7) (N := 4) in_X7 rfl (by decide) rfl (List.mem_cons_of_mem _ fk_X7_17)
  have g24 : FG Z 24 7 3 := fg_mk F (C := RX7) (T := TX7) (N := 4) in_X7 rfl (by decide) rfl (List.mem_cons_of_mem _ fk_X7_24)
  have k0 := kd_sc0 hs
  have k1 := kd_sc1 hs
  have k2 := kd_sc2 hs
  have k3 := kd_sc3 hs
  have k4 := kd_sc4 hs
  have hbb : b = 204 ∨ b = 329 := hs
  have lo2 : ∀ i, i ≤ 256 → JJ Z (0, 0) (wA M (b + 4) (OF (M.1 (b + 2)) i)) 23 [some (.ref ((zE Z).2.2 b)), some (.int (nI i)), none] [] := by
    refine jj_loop (256) ?_ ?_
    · refine jj_iload_n F dX7_countTops_23 rfl ?_
      refine jj_sipush F (v := nI 256) dX7_countTops_24 (by decide) ?_
      refine jj_icmp_ge F (tgt := 63) dX7_countTops_27 (by decide) (fun _ => ?_) (fun h9 => absurd (nI_le (by omega) (by omega)) h9)
      exact ret _ _ _ dX7_countTops_63 rfl
    · intro i hi ih
      refine jj_iload_n F dX7_countTops_23 rfl ?_
      refine jj_sipush F (v := nI 256) dX7_countTops_24 (by decide) ?_
      refine jj_icmp_ge F (tgt := 63) dX7_countTops_27 (by decide) (fun h9 => absurd h9 (nI_ge (by omega) (by omega))) (fun _ => ?_)
      refine jj_aload_n F dX7_countTops_30 rfl ?_
      refine jj_getr F g17 (by assumption) (by rfl) dX7_countTops_31 ?_
      refine jj_iload_n F dX7_countTops_34 rfl ?_
      refine jj_iald F (by assumption) rfl (by omega) dX7_countTops_35 ?_
      rw [wA_n (by omega)]
      refine jj_istore_n F dX7_countTops_36 (by rw [hnl]; decide) ?_
      dsimp only [lq_st, lq_clr, lq_no]
      refine jj_iload_n F dX7_countTops_37 rfl ?_
      refine jj_if_lt F (tgt := 57) dX7_countTops_38 (by decide) (fun h38 => ?_) (fun h38 => ?_)
      · refine jj_iinc F dX7_countTops_57 rfl (by first | exact iinc1 _ | rfl) (by rw [hnl]; decide) ?_
        dsimp only [lq_st, lq_clr, lq_no]
        refine jj_goto F (tgt := 23) dX7_countTops_60 (by decide) ?_
        refine jj_less (L2 := [some (.ref ((zE Z).2.2 b)), some (.int (nI (i + 1))), none]) (less2 _ _ _) ?_
        first
        | (rw [wA_s, wA_wA, OF_put ha hTa]; exact ih)
        | (rw [OF_skip (fun k hk e => by rw [e] at h38; exact nI_pos (by omega) h38)]; exact ih)
        | (rw [OF_skip (fun k hk e => by rw [e] at h44; exact nI_ge hk (by omega) h44)]; exact ih)
      · refine jj_iload_n F dX7_countTops_41 rfl ?_
        refine jj_bipush F (v := nI 60) dX7_countTops_42 (by decide) ?_
        refine jj_icmp_ge F (tgt := 57) dX7_countTops_44 (by decide) (fun h44 => ?_) (fun h44 => ?_)
        · refine jj_iinc F dX7_countTops_57 rfl (by first | exact iinc1 _ | rfl) (by rw [hnl]; decide) ?_
          dsimp only [lq_st, lq_clr, lq_no]
          refine jj_goto F (tgt := 23) dX7_countTops_60 (by decide) ?_
          refine jj_less (L2 := [some (.ref ((zE Z).2.2 b)), some (.int (nI (i + 1))), none]) (less2 _ _ _) ?_
          first
          | (rw [wA_s, wA_wA, OF_put ha hTa]; exact ih)
          | (rw [OF_skip (fun k hk e => by rw [e] at h38; exact nI_pos (by omega) h38)]; exact ih)
          | (rw [OF_skip (fun k hk e => by rw [e] at h44; exact nI_ge hk (by omega) h44)]; exact ih)
        · refine jj_aload_n F dX7_countTops_47 rfl ?_
          refine jj_getr F g24 (by assumption) (by rfl) dX7_countTops_48 ?_
          refine jj_iload_n F dX7_countTops_51 rfl ?_
          obtain ⟨a, ha, hTa⟩ := i32_ix h38 h44 (by omega)
          rw [hTa]
          refine jj_dup2 F dX7_countTops_52 rfl rfl ?_
          refine jj_iald F (by assumption) rfl (by omega) dX7_countTops_53 ?_
          refine jj_iconst F (v := nI 1) dX7_countTops_54 (by decide) ?_
          refine jj_iadd F dX7_countTops_55 ?_
          refine jj_iast F (by assumption) rfl (by omega) dX7_countTops_56 ?_
          refine jj_iinc F dX7_countTops_57 rfl (by first | exact iinc1 _ | rfl) (by rw [hnl]; decide) ?_
          dsimp only [lq_st, lq_clr, lq_no]
          refine jj_goto F (tgt := 23) dX7_countTops_60 (by decide) ?_
          refine jj_less (L2 := [some (.ref ((zE Z).2.2 b)), some (.int (nI (i + 1))), none]) (less2 _ _ _) ?_
          first
          | (rw [wA_s, wA_wA, OF_put ha hTa]; exact ih)
          | (rw [OF_skip (fun k hk e => by rw [e] at h38; exact nI_pos (by omega) h38)]; exact ih)
          | (rw [OF_skip (fun k hk e => by rw [e] at h44; exact nI_ge hk (by omega) h44)]; exact ih)
  have lo : ∀ i, i ≤ 60 → JJ Z (0, 0) (wA M (b + 4) (fl i (fun _ => nI 0) (M.1 (b + 4)))) 2 [some (.ref ((zE Z).2.2 b)), some (.int (nI i)), none] [] := by
    refine jj_loop (60) ?_ ?_
    · refine jj_iload_n F dX7_countTops_2 rfl ?_
      refine jj_bipush F (v := nI 60) dX7_countTops_3 (by decide) ?_
      refine jj_icmp_ge F (tgt := 21) dX7_countTops_5 (by decide) (fun _ => ?_) (fun h9 => absurd (nI_le (by omega) (by omega)) h9)
      refine jj_iconst F (v := nI 0) dX7_countTops_21 (by decide) ?_
      refine jj_istore_n F dX7_countTops_22 (by rw [hnl]; decide) ?_
      dsimp only [lq_st, lq_clr, lq_no]
      refine jj_eqv (meq_fl k4) ?_
      rw [OF_0 (M.1 (b + 2))]
      exact lo2 0 (by omega)
    · intro i hi ih
      refine jj_iload_n F dX7_countTops_2 rfl ?_
      refine jj_bipush F (v := nI 60) dX7_countTops_3 (by decide) ?_
      refine jj_icmp_ge F (tgt := 21) dX7_countTops_5 (by decide) (fun h9 => absurd h9 (nI_ge (by omega) (by omega))) (fun _ => ?_)
      refine jj_aload_n F dX7_countTops_8 rfl ?_
      refine jj_getr F g24 (by assumption) (by rfl) dX7_countTops_9 ?_
      refine jj_iload_n F dX7_countTops_12 rfl ?_
      refine jj_iconst F (v := nI 0) dX7_countTops_13 (by decide) ?_
      refine jj_iast F (by assumption) rfl (by omega) dX7_countTops_14 ?_
      refine jj_iinc F dX7_countTops_15 rfl (by first | exact iinc1 _ | rfl) (by rw [hnl]; decide) ?_
      dsimp only [lq_st, lq_clr, lq_no]
      refine jj_goto F (tgt := 2) dX7_countTops_18 (by decide) ?_
      rw [fl_put rfl]
      exact ih
  refine jj_iconst F (v := nI 0) dX7_countTops_0 (by decide) ?_
  refine jj_istore_n F dX7_countTops_1 (by rw [hnl]; decide) ?_
  dsimp only [lq_st, lq_clr, lq_no]
  refine jj_eqM (fl_0 M (b + 4) (fun _ => nI 0)) ?_
  exact lo 0 (by omega)
set_option maxRecDepth 100000 in
set_option maxHeartbeats 1000000 in
theorem c_X7_paintedCells {l : Launch} {E : Ee} {M : Mm} {b : Nat} (hs : isSc b) : CtI l E yX7_paintedCells (.code yX7_paintedCells cX7_paintedCells 3 (some .int) :: gl) ({ frames := 0, cells := 0, slots := 0, locals := 0 } : Room) M [.ref (E.2.2 b)] 0 0 (fun r M2 => r = nI (fb_ct (fun c => !decide (M.1 (b + 2) c = -1)) 256) ∧ M2 = M) := by
  refine ctI_of (L0 := [some (.ref (E.2.2 b)), none, none]) (by decide) rfl (Nat.le_of_ble_eq_true rfl) rfl ?_
  intro Z hl hE hnl F ret
  subst hE
  have in_X7 : ∀ w ∈ u_ws RX7 TX7 4, w ∈ (.code yX7_paintedCells cX7_paintedCells 3 (some .int) :: gl) := fun w h => List.mem_cons_of_mem _ (lay_X7 w h)
  have g17 : FG Z 17 7 1 := fg_mk F (C := RX7) (T := TX7) (N := 4) in_X7 rfl (by decide) rfl (List.mem_cons_of_mem _ fk_X7_17)
  have k0 := kd_sc0 hs
  have k1 := kd_sc1 hs
  have k2 := kd_sc2 hs
  have k3 := kd_sc3 hs
  have k4 := kd_sc4 hs
  have hbb : b = 204 ∨ b = 329 := hs
  have lo : ∀ i, i ≤ 256 → JJ Z (0, 0) (M) 4 [some (.ref ((zE Z).2.2 b)), some (.int (nI (fb_ct (fun c => !decide (M.1 (b + 2) c = -1)) i))), some (.int (nI i))] [] := by
    refine jj_loop (256) ?_ ?_
    · refine jj_iload_n F dX7_paintedCells_4 rfl ?_
      refine jj_sipush F (v := nI 256) dX7_paintedCells_5 (by decide) ?_
      refine jj_icmp_ge F (tgt := 30) dX7_paintedCells_8 (by decide) (fun _ => ?_) (fun h9 => absurd (nI_le (by omega) (by omega)) h9)
      refine jj_iload_n F dX7_paintedCells_30 rfl ?_
      exact ret _ _ _ _ dX7_paintedCells_31 rfl ⟨rfl, rfl⟩
    · intro i hi ih
      refine jj_iload_n F dX7_paintedCells_4 rfl ?_
      refine jj_sipush F (v := nI 256) dX7_paintedCells_5 (by decide) ?_
      refine jj_icmp_ge F (tgt := 30) dX7_paintedCells_8 (by decide) (fun h9 => absurd h9 (nI_ge (by omega) (by omega))) (fun _ => ?_)
      refine jj_aload_n F dX7_paintedCells_11 rfl ?_
      refine jj_getr F g17 (by assumption) (by rfl) dX7_paintedCells_12 ?_
      refine jj_iload_n F dX7_paintedCells_15 rfl ?_
      refine jj_iald F (by assumption) rfl (by omega) dX7_paintedCells_16 ?_
      refine jj_iconst F (v := -1) dX7_paintedCells_17 (by decide) ?_
      refine jj_icmp_eq F (tgt := 24) dX7_paintedCells_18 (by decide) (fun h18 => ?_) (fun h18 => ?_)
      · refine jj_iinc F dX7_paintedCells_24 rfl (by first | exact iinc1 _ | rfl) (by rw [hnl]; decide) ?_
        dsimp only [lq_st, lq_clr, lq_no]
        refine jj_goto F (tgt := 4) dX7_paintedCells_27 (by decide) ?_
        refine jj_eqL ?_ ih
        simp [fb_ct, h18]
      · refine jj_iinc F dX7_paintedCells_21 rfl (by first | exact iinc1 _ | rfl) (by rw [hnl]; decide) ?_
        dsimp only [lq_st, lq_clr, lq_no]
        refine jj_iinc F dX7_paintedCells_24 rfl (by first | exact iinc1 _ | rfl) (by rw [hnl]; decide) ?_
        dsimp only [lq_st, lq_clr, lq_no]
        refine jj_goto F (tgt := 4) dX7_paintedCells_27 (by decide) ?_
        refine jj_eqL ?_ ih
        simp [fb_ct, h18]
  refine jj_iconst F (v := nI 0) dX7_paintedCells_0 (by decide) ?_
  refine jj_istore_n F dX7_paintedCells_1 (by rw [hnl]; decide) ?_
  dsimp only [lq_st, lq_clr, lq_no]
  refine jj_iconst F (v := nI 0) dX7_paintedCells_2 (by decide) ?_
  refine jj_istore_n F dX7_paintedCells_3 (by rw [hnl]; decide) ?_
  dsimp only [lq_st, lq_clr, lq_no]
  exact lo 0 (by omega)
set_option maxRecDepth 100000 in
set_option maxHeartbeats 1000000 in
theorem c_X7_hiddenOperations {l : Launch} {E : Ee} {M : Mm} {b n : Nat} {t : Int32} {LS : Nat → Nat → Bool} (hs : isSc b) (hn : M.1 5 1 = nI n) (h60 : n ≤ 60) (hL : ∀ i, i < n → M.1 (b + 5 + 2 * i + 1) = rowsOf (LS i)) : CtI l E yX7_hiddenOperations (.code yX7_hiddenOperations cX7_hiddenOperations 5 (some .int) :: gl) ({ frames := 2, cells := 0, slots := 0, locals := 42 } : Room) M [.ref (E.2.2 b), .ref (E.2.2 5), .int t] 0 0 (fun r M2 => r = nI (fb_ct (fun j => decide (M.1 (b + 4) j = 0) && !decide (nI (csz (LS j)) ≤ 0) && !vanI (M.1 (7 + 3 * j) 4) (M.1 (7 + 3 * j) 5) t) n) ∧ M2 = M) := by
  refine ctI_of (L0 := [some (.ref (E.2.2 b)), some (.ref (E.2.2 5)), some (.int t), none, none]) (by decide) rfl (Nat.le_of_ble_eq_true rfl) rfl ?_
  intro Z hl hE hnl F ret
  subst hE
  have in_X2 : ∀ w ∈ u_ws RX2 TX2 3, w ∈ (.code yX7_hiddenOperations cX7_hiddenOperations 5 (some .int) :: gl) := fun w h => List.mem_cons_of_mem _ (lay_X2 w h)
  have in_X7 : ∀ w ∈ u_ws RX7 TX7 4, w ∈ (.code yX7_hiddenOperations cX7_hiddenOperations 5 (some .int) :: gl) := fun w h => List.mem_cons_of_mem _ (lay_X7 w h)
  have g11 : FG Z 11 7 0 := fg_mk F (C := RX7) (T := TX7) (N := 4) in_X7 rfl (by decide) rfl (List.mem_cons_of_mem _ fk_X7_11)
  have g24 : FG Z 24 7 3 := fg_mk F (C := RX7) (T := TX7) (N := 4) in_X7 rfl (by decide) rfl (List.mem_cons_of_mem _ fk_X7_24)
  have g28 : FG Z 28 2 1 := fg_mk F (C := RX2) (T := TX2) (N := 3) in_X2 rfl (by decide) rfl (List.mem_cons_of_mem _ fk_X7_28)
  have g37 : FG Z 37 2 0 := fg_mk F (C := RX2) (T := TX2) (N := 3) in_X2 rfl (by decide) rfl (List.mem_cons_of_mem _ fk_X7_37)
  have k0 := kd_sc0 hs
  have k1 := kd_sc1 hs
  have k2 := kd_sc2 hs
  have k3 := kd_sc3 hs
  have k4 := kd_sc4 hs
  have hbb : b = 204 ∨ b = 329 := hs
  have kl := kd_Log
  have ke := kd_ents
  have lo : ∀ i, i ≤ n → JJ Z (0, 0) (M) 5 [some (.ref ((zE Z).2.2 b)), some (.ref ((zE Z).2.2 5)), some (.int t), some (.int (nI (fb_ct (fun j => decide (M.1 (b + 4) j = 0) && !decide (nI (csz (LS j)) ≤ 0) && !vanI (M.1 (7 + 3 * j) 4) (M.1 (7 + 3 * j) 5) t) i))), some (.int (nI i))] [] := by
    refine jj_loop (n) ?_ ?_
    · refine jj_iload F dX7_hiddenOperations_5 rfl ?_
      refine jj_aload_n F dX7_hiddenOperations_7 rfl ?_
      refine jj_geti F g28 (by assumption) (by rfl) dX7_hiddenOperations_8 ?_
      rw [hn]
      refine jj_icmp_ge F (tgt := 60) dX7_hiddenOperations_11 (by decide) (fun _ => ?_) (fun h9 => absurd (nI_le (by omega) (by omega)) h9)
      refine jj_iload_n F dX7_hiddenOperations_60 rfl ?_
      exact ret _ _ _ _ dX7_hiddenOperations_61 rfl ⟨rfl, rfl⟩
    · intro i hi ih
      have ko := kd_op i (by omega)
      have csl := cs_sc hs i (by omega)
      obtain ⟨l0, l1⟩ := id csl
      have hSi := hL i hi
      refine jj_iload F dX7_hiddenOperations_5 rfl ?_
      refine jj_aload_n F dX7_hiddenOperations_7 rfl ?_
      refine jj_geti F g28 (by assumption) (by rfl) dX7_hiddenOperations_8 ?_
      rw [hn]
      refine jj_icmp_ge F (tgt := 60) dX7_hiddenOperations_11 (by decide) (fun h9 => absurd h9 (nI_ge (by omega) (by omega))) (fun _ => ?_)
      refine jj_aload_n F dX7_hiddenOperations_14 rfl ?_
      refine jj_getr F g24 (by assumption) (by rfl) dX7_hiddenOperations_15 ?_
      refine jj_iload F dX7_hiddenOperations_18 rfl ?_
      refine jj_iald F (by assumption) rfl (by omega) dX7_hiddenOperations_20 ?_
      refine jj_if_ne F (tgt := 54) dX7_hiddenOperations_21 (by decide) (fun h21 => ?_) (fun h21 => ?_)
      · refine jj_iinc F dX7_hiddenOperations_54 rfl (by first | exact iinc1 _ | rfl) (by rw [hnl]; decide) ?_
        dsimp only [lq_st, lq_clr, lq_no]
        refine jj_goto F (tgt := 5) dX7_hiddenOperations_57 (by decide) ?_
        refine jj_eqL ?_ ih
        first
        | (simp only [fb_ct_succ, h21, decide_true, decide_false, Bool.not_true, Bool.not_false, Bool.true_and, Bool.and_true, Bool.false_and, Bool.and_false, if_true, if_false, Bool.false_eq_true, Nat.add_zero]; done)
        | (simp only [fb_ct_succ, h21, h34, decide_true, decide_false, Bool.not_true, Bool.not_false, Bool.true_and, Bool.and_true, Bool.false_and, Bool.and_false, if_true, if_false, Bool.false_eq_true, Nat.add_zero]; done)
        | (rw [b2i_n0] at h48; simp only [fb_ct_succ, h21, h34, h48, decide_true, decide_false, Bool.not_true, Bool.not_false, Bool.true_and, Bool.and_true, Bool.false_and, Bool.and_false, if_true, if_false, Bool.false_eq_true, Nat.add_zero]; done)
        | (rw [b2i_0] at h48; simp only [fb_ct_succ, h21, h34, h48, decide_true, decide_false, Bool.not_true, Bool.not_false, Bool.true_and, Bool.and_true, Bool.false_and, Bool.and_false, if_true, if_false, Bool.false_eq_true, Nat.add_zero]; done)
      · refine jj_aload_n F dX7_hiddenOperations_24 rfl ?_
        refine jj_getr F g11 (by assumption) (by rfl) dX7_hiddenOperations_25 ?_
        refine jj_iload F dX7_hiddenOperations_28 rfl ?_
        refine jj_aald F (by assumption) rfl (by omega) dX7_hiddenOperations_30 ?_
        refine jj_callVi (na := 0) F (c_X0_size (by assumption) (by assumption)) (gl_V mk_X7_105 vw_X0_size) rfl rfl rfl (by decide +kernel) ⟨Nat.le_of_ble_eq_true rfl, Nat.le_of_ble_eq_true rfl⟩ (by assumption) rfl rfl rfl (Nat.le_of_ble_eq_true rfl) ⟨Nat.le_of_ble_eq_true rfl, Nat.le_of_ble_eq_true rfl⟩ dX7_hiddenOperations_31 (fun r31 M31 hp31 => ?_)
        obtain ⟨rfl, rfl⟩ := symm2 hp31
        refine jj_if_le F (tgt := 54) dX7_hiddenOperations_34 (by decide) (fun h34 => ?_) (fun h34 => ?_)
        · refine jj_iinc F dX7_hiddenOperations_54 rfl (by first | exact iinc1 _ | rfl) (by rw [hnl]; decide) ?_
          dsimp only [lq_st, lq_clr, lq_no]
          refine jj_goto F (tgt := 5) dX7_hiddenOperations_57 (by decide) ?_
          refine jj_eqL ?_ ih
          first
          | (simp only [fb_ct_succ, h21, decide_true, decide_false, Bool.not_true, Bool.not_false, Bool.true_and, Bool.and_true, Bool.false_and, Bool.and_false, if_true, if_false, Bool.false_eq_true, Nat.add_zero]; done)
          | (simp only [fb_ct_succ, h21, h34, decide_true, decide_false, Bool.not_true, Bool.not_false, Bool.true_and, Bool.and_true, Bool.false_and, Bool.and_false, if_true, if_false, Bool.false_eq_true, Nat.add_zero]; done)
          | (rw [b2i_n0] at h48; simp only [fb_ct_succ, h21, h34, h48, decide_true, decide_false, Bool.not_true, Bool.not_false, Bool.true_and, Bool.and_true, Bool.false_and, Bool.and_false, if_true, if_false, Bool.false_eq_true, Nat.add_zero]; done)
          | (rw [b2i_0] at h48; simp only [fb_ct_succ, h21, h34, h48, decide_true, decide_false, Bool.not_true, Bool.not_false, Bool.true_and, Bool.and_true, Bool.false_and, Bool.and_false, if_true, if_false, Bool.false_eq_true, Nat.add_zero]; done)
        · refine jj_aload_n F dX7_hiddenOperations_37 rfl ?_
          refine jj_getr F g37 (by assumption) (by rfl) dX7_hiddenOperations_38 ?_
          refine jj_iload F dX7_hiddenOperations_41 rfl ?_
          refine jj_aald F (by assumption) rfl (by omega) dX7_hiddenOperations_43 ?_
          refine jj_iload_n F dX7_hiddenOperations_44 rfl ?_
          refine jj_callVi (na := 1) F (c_X4_hasVanished (by omega)) (gl_V mk_X7_57 vw_X4_hasVanished) rfl rfl rfl (by decide +kernel) ⟨Nat.le_of_ble_eq_true rfl, Nat.le_of_ble_eq_true rfl⟩ (by assumption) rfl rfl rfl (Nat.le_of_ble_eq_true rfl) ⟨Nat.le_of_ble_eq_true rfl, Nat.le_of_ble_eq_true rfl⟩ dX7_hiddenOperations_45 (fun r45 M45 hp45 => ?_)
          obtain ⟨rfl, rfl⟩ := symm2 hp45
          refine jj_if_ne F (tgt := 54) dX7_hiddenOperations_48 (by decide) (fun h48 => ?_) (fun h48 => ?_)
          · refine jj_iinc F dX7_hiddenOperations_54 rfl (by first | exact iinc1 _ | rfl) (by rw [hnl]; decide) ?_
            dsimp only [lq_st, lq_clr, lq_no]
            refine jj_goto F (tgt := 5) dX7_hiddenOperations_57 (by decide) ?_
            refine jj_eqL ?_ ih
            first
            | (simp only [fb_ct_succ, h21, decide_true, decide_false, Bool.not_true, Bool.not_false, Bool.true_and, Bool.and_true, Bool.false_and, Bool.and_false, if_true, if_false, Bool.false_eq_true, Nat.add_zero]; done)
            | (simp only [fb_ct_succ, h21, h34, decide_true, decide_false, Bool.not_true, Bool.not_false, Bool.true_and, Bool.and_true, Bool.false_and, Bool.and_false, if_true, if_false, Bool.false_eq_true, Nat.add_zero]; done)
            | (rw [b2i_n0] at h48; simp only [fb_ct_succ, h21, h34, h48, decide_true, decide_false, Bool.not_true, Bool.not_false, Bool.true_and, Bool.and_true, Bool.false_and, Bool.and_false, if_true, if_false, Bool.false_eq_true, Nat.add_zero]; done)
            | (rw [b2i_0] at h48; simp only [fb_ct_succ, h21, h34, h48, decide_true, decide_false, Bool.not_true, Bool.not_false, Bool.true_and, Bool.and_true, Bool.false_and, Bool.and_false, if_true, if_false, Bool.false_eq_true, Nat.add_zero]; done)
          · refine jj_iinc F dX7_hiddenOperations_51 rfl (by first | exact iinc1 _ | rfl) (by rw [hnl]; decide) ?_
            dsimp only [lq_st, lq_clr, lq_no]
            refine jj_iinc F dX7_hiddenOperations_54 rfl (by first | exact iinc1 _ | rfl) (by rw [hnl]; decide) ?_
            dsimp only [lq_st, lq_clr, lq_no]
            refine jj_goto F (tgt := 5) dX7_hiddenOperations_57 (by decide) ?_
            refine jj_eqL ?_ ih
            first
            | (simp only [fb_ct_succ, h21, decide_true, decide_false, Bool.not_true, Bool.not_false, Bool.true_and, Bool.and_true, Bool.false_and, Bool.and_false, if_true, if_false, Bool.false_eq_true, Nat.add_zero]; done)
            | (simp only [fb_ct_succ, h21, h34, decide_true, decide_false, Bool.not_true, Bool.not_false, Bool.true_and, Bool.and_true, Bool.false_and, Bool.and_false, if_true, if_false, Bool.false_eq_true, Nat.add_zero]; done)
            | (rw [b2i_n0] at h48; simp only [fb_ct_succ, h21, h34, h48, decide_true, decide_false, Bool.not_true, Bool.not_false, Bool.true_and, Bool.and_true, Bool.false_and, Bool.and_false, if_true, if_false, Bool.false_eq_true, Nat.add_zero]; done)
            | (rw [b2i_0] at h48; simp only [fb_ct_succ, h21, h34, h48, decide_true, decide_false, Bool.not_true, Bool.not_false, Bool.true_and, Bool.and_true, Bool.false_and, Bool.and_false, if_true, if_false, Bool.false_eq_true, Nat.add_zero]; done)
  refine jj_iconst F (v := nI 0) dX7_hiddenOperations_0 (by decide) ?_
  refine jj_istore_n F dX7_hiddenOperations_1 (by rw [hnl]; decide) ?_
  dsimp only [lq_st, lq_clr, lq_no]
  refine jj_iconst F (v := nI 0) dX7_hiddenOperations_2 (by decide) ?_
  refine jj_istore F dX7_hiddenOperations_3 (by rw [hnl]; decide) ?_
  dsimp only [lq_st, lq_clr, lq_no]
  exact lo 0 (by omega)
set_option maxRecDepth 100000 in
set_option maxHeartbeats 1000000 in
theorem c_X7_collectColor {l : Launch} {E : Ee} {M : Mm} {b k : Nat} {col : Int32} (hs : isSc b) (hk : isCS k) (hne : k + 1 ≠ b + 3) : CtV l E yX7_collectColor (.code yX7_collectColor cX7_collectColor 4 none :: gl) ({ frames := 1, cells := 0, slots := 0, locals := 21 } : Room) M [.ref (E.2.2 b), .int col, .ref (E.2.2 k)] 0 0 (fun M2 => M2 = wA M (k + 1) (rowsOf (fun c => decide (c < 256) && decide (M.1 (b + 3) c = col)))) := by
  refine ctV_of (L0 := [some (.ref (E.2.2 b)), some (.int col), some (.ref (E.2.2 k)), none]) (by decide) rfl (Nat.le_of_ble_eq_true rfl) rfl ?_
  intro Z hl hE hnl F ret
  subst hE
  have in_X7 : ∀ w ∈ u_ws RX7 TX7 4, w ∈ (.code yX7_collectColor cX7_collectColor 4 none :: gl) := fun w h => List.mem_cons_of_mem _ (lay_X7 w h)
  have g21 : FG Z 21 7 2 := fg_mk F (C := RX7) (T := TX7) (N := 4) in_X7 rfl (by decide) rfl (List.mem_cons_of_mem _ fk_X7_21)
  have k0 := kd_sc0 hs
  have k1 := kd_sc1 hs
  have k2 := kd_sc2 hs
  have k3 := kd_sc3 hs
  have k4 := kd_sc4 hs
  have hbb : b = 204 ∨ b = 329 := hs
  obtain ⟨h0, h1⟩ := id hk
  have lo : ∀ i, i ≤ 256 → JJ Z (0, 0) (wA M (k + 1) (rowsOf (fun c => decide (c < i) && decide (M.1 (b + 3) c = col)))) 6 [some (.ref ((zE Z).2.2 b)), some (.int col), some (.ref ((zE Z).2.2 k)), some (.int (nI i))] [] := by
    refine jj_loop (256) ?_ ?_
    · refine jj_iload_n F dX7_collectColor_6 rfl ?_
      refine jj_sipush F (v := nI 256) dX7_collectColor_7 (by decide) ?_
      refine jj_icmp_ge F (tgt := 34) dX7_collectColor_10 (by decide) (fun _ => ?_) (fun h9 => absurd (nI_le (by omega) (by omega)) h9)
      exact ret _ _ _ dX7_collectColor_34 rfl
    · intro i hi ih
      have hSi : (wA M (k + 1) (rowsOf (fun c => decide (c < i) && decide (M.1 (b + 3) c = col)))).1 (k + 1) = rowsOf (fun c => decide (c < i) && decide (M.1 (b + 3) c = col)) := wA_s _ _ _
      refine jj_iload_n F dX7_collectColor_6 rfl ?_
      refine jj_sipush F (v := nI 256) dX7_collectColor_7 (by decide) ?_
      refine jj_icmp_ge F (tgt := 34) dX7_collectColor_10 (by decide) (fun h9 => absurd h9 (nI_ge (by omega) (by omega))) (fun _ => ?_)
      refine jj_aload_n F dX7_collectColor_13 rfl ?_
      refine jj_getr F g21 (by assumption) (by rfl) dX7_collectColor_14 ?_
      refine jj_iload_n F dX7_collectColor_17 rfl ?_
      refine jj_iald F (by assumption) rfl (by omega) dX7_collectColor_18 ?_
      rw [wA_n (Ne.symm hne)]
      refine jj_iload_n F dX7_collectColor_19 rfl ?_
      refine jj_icmp_ne F (tgt := 28) dX7_collectColor_20 (by decide) (fun h20 => ?_) (fun h20 => ?_)
      · refine jj_iinc F dX7_collectColor_28 rfl (by first | exact iinc1 _ | rfl) (by rw [hnl]; decide) ?_
        dsimp only [lq_st, lq_clr, lq_no]
        refine jj_goto F (tgt := 6) dX7_collectColor_31 (by decide) ?_
        refine jj_eqM (wA_rows (fun c => ?_)) ih
        first
        | (by_cases q : c = i; (subst q; simp [h20]); simp [q, show (c < i + 1) = (c < i) by simp; omega]; done)
      · refine jj_aload_n F dX7_collectColor_23 rfl ?_
        refine jj_iload_n F dX7_collectColor_24 rfl ?_
        refine jj_callVv (na := 1) F (c_X0_include (by assumption) (by assumption) (by omega)) (gl_V mk_X7_108 vw_X0_include) rfl rfl rfl (by decide +kernel) ⟨Nat.le_of_ble_eq_true rfl, Nat.le_of_ble_eq_true rfl⟩ (by assumption) rfl rfl rfl (Nat.le_of_ble_eq_true rfl) ⟨Nat.le_of_ble_eq_true rfl, Nat.le_of_ble_eq_true rfl⟩ dX7_collectColor_25 (fun M25 hp25 => ?_)
        obtain rfl := hp25.symm
        rw [wA_wA]
        refine jj_iinc F dX7_collectColor_28 rfl (by first | exact iinc1 _ | rfl) (by rw [hnl]; decide) ?_
        dsimp only [lq_st, lq_clr, lq_no]
        refine jj_goto F (tgt := 6) dX7_collectColor_31 (by decide) ?_
        refine jj_eqM (wA_rows (fun c => ?_)) ih
        first
        | (by_cases q : c = i; (subst q; simp [h20]); simp [q, show (c < i + 1) = (c < i) by simp; omega]; done)
  refine jj_aload_n F dX7_collectColor_0 rfl ?_
  refine jj_callVv (na := 0) F (c_X0_becomeEmpty (by assumption)) (gl_V mk_X7_34 vw_X0_becomeEmpty) rfl rfl rfl (by decide +kernel) ⟨Nat.le_of_ble_eq_true rfl, Nat.le_of_ble_eq_true rfl⟩ (by assumption) rfl rfl rfl (Nat.le_of_ble_eq_true rfl) ⟨Nat.le_of_ble_eq_true rfl, Nat.le_of_ble_eq_true rfl⟩ dX7_collectColor_1 (fun M1 hp1 => ?_)
  obtain rfl := hp1.symm
  refine jj_iconst F (v := nI 0) dX7_collectColor_4 (by decide) ?_
  refine jj_istore_n F dX7_collectColor_5 (by rw [hnl]; decide) ?_
  dsimp only [lq_st, lq_clr, lq_no]
  refine jj_eqM (wA_rows (fun c => ?_)) (lo 0 (by omega))
  simp
