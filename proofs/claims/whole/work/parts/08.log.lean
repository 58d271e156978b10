/-! Log: cell 5 (1 size, 2 undos), entries 6, operation i: cell 7 + 3 i -/
theorem fam_skip {b d i : Nat} {g : Nat → Nat → Int32} {M : Mm} (hd : 0 < d) (h : M.1 (b + d * i) = g i) : fam b d i g M = fam b d (i + 1) g M := by
  rw [← fam_s hd, ← h]
  have e : (fam b d i g M).1 (b + d * i) = M.1 (b + d * i) := fam_out (fun j hj e => by
    have : d * j = d * i := by omega
    have := Nat.eq_of_mul_eq_mul_left hd this
    omega)
  rw [← e, wA_same]
theorem fam_at {b d i : Nat} {g : Nat → Nat → Int32} {M : Mm} (hd : 0 < d) : (fam b d i g M).1 (b + d * i) = M.1 (b + d * i) := fam_out (fun j hj e => by
    have : d * j = d * i := by omega
    have := Nat.eq_of_mul_eq_mul_left hd this
    omega)
theorem meq_rf (M : Mm) : meq M M := by
  intro k hk
  generalize kd k = q
  match q with
  | .inl (_, fl) => exact fun j => ⟨fun _ => rfl, fun _ => rfl⟩
  | .inr (0, n, _, _) => exact fun j hj => rfl
  | .inr (1, n, _, _) => exact fun j hj => rfl
  | .inr (2, n, _, _) => exact fun j hj => rfl
  | .inr (t + 3, n, _, _) => trivial
theorem meq_ob {M : Mm} {k ci : Nat} {fl : List Nat} {f g : Nat → Int32} (hk : kd k = .inl (ci, fl)) (h : ∀ j, fl[j]? = some 0 → f j = g j) : meq (wA M k f) (wA M k g) := by
  intro a ha
  by_cases e : a = k
  · subst e
    rw [hk]
    intro j
    exact ⟨fun hj => by rw [wA_s, wA_s]; exact h j hj, fun _ => rfl⟩
  · generalize kd a = q
    match q with
    | .inl (_, fl) => intro j; rw [wA_n e, wA_n e]; exact ⟨fun _ => rfl, fun _ => rfl⟩
    | .inr (0, n, _, _) => intro j hj; rw [wA_n e, wA_n e]
    | .inr (1, n, _, _) => intro j hj; rw [wA_n e, wA_n e]
    | .inr (2, n, _, _) => intro j hj; rfl
    | .inr (t + 3, n, _, _) => trivial
def fgF (M : Mm) (ow : Int32) (j : Nat) : Nat → Int32 := if M.1 (7 + 3 * j) 1 = ow then upd (M.1 (7 + 3 * j)) 7 (nI 0) else M.1 (7 + 3 * j)
def opN (so ow la ti : Int32) : Nat → Int32 := fun b => if b = 0 then so else if b = 1 then ow else if b = 2 then la else if b = 5 then ti else if b = 6 then nI 1 else nI 0
def ltF (M : Mm) (ow : Int32) : Nat → Int32
  | 0 => -1
  | i + 1 => if ¬ M.1 (7 + 3 * i) 6 = 0 ∧ M.1 (7 + 3 * i) 1 = ow then nI i else ltF M ow i
def luF (M : Mm) (ow : Int32) : Nat → Int32 × Int32
  | 0 => (-1, nI 0)
  | i + 1 => if M.1 (7 + 3 * i) 1 = ow ∧ (luF M ow i).2 < M.1 (7 + 3 * i) 7 then (nI i, M.1 (7 + 3 * i) 7) else luF M ow i
def gbF (M : Mm) (m j : Nat) : Nat → Int32 := upd (upd (M.1 (7 + 3 * j)) 6 (M.1 (460 + 3 * m + 1) j)) 7 (nI 0)
theorem op_meq {r : Nat} : ∀ j : Nat, ([0, 0, 0, 0, 0, 0, 0, 0, r] : List Nat)[j]? = some 0 → j < 8 ∨ r = 0 := by
  intro j h
  rcases Nat.lt_or_ge j 8 with q | q
  · exact Or.inl q
  · rcases Nat.lt_or_ge j 9 with q2 | q2
    · have : j = 8 := by omega
      subst this
      right
      simpa using h
    · rw [List.getElem?_eq_none (by simpa using q2)] at h
      cases h
set_option maxRecDepth 100000 in
set_option maxHeartbeats 1000000 in
theorem c_X2_contains {l : Launch} {E : Ee} {M : Mm} {x : Int32} : CtI l E yX2_contains (.code yX2_contains cX2_contains 2 (some .boolean) :: gl) ({ frames := 0, cells := 0, slots := 0, locals := 0 } : Room) M [.ref (E.2.2 5), .int x] 0 0 (fun r M2 => r = b2i (decide (0 ≤ x) && decide (x < M.1 5 1)) ∧ M2 = M) := by
  refine ctI_of (L0 := [some (.ref (E.2.2 5)), some (.int x)]) (by decide) rfl (Nat.le_of_ble_eq_true rfl) rfl ?_
  intro Z hl hE hnl F ret
  subst hE
  have in_X2 : ∀ w ∈ u_ws RX2 TX2 3, w ∈ (.code yX2_contains cX2_contains 2 (some .boolean) :: gl) := fun w h => List.mem_cons_of_mem _ (lay_X2 w h)
  have g17 : FG Z 17 2 1 := fg_mk F (C := RX2) (T := TX2) (N := 3) in_X2 rfl (by decide) rfl (List.mem_cons_of_mem _ fk_X2_17)
  have kl := kd_Log
  have ke := kd_ents
  refine jj_iload_n F dX2_contains_0 rfl ?_
  refine jj_if_lt F (tgt := 16) dX2_contains_1 (by decide) (fun h1 => ?_) (fun h1 => ?_)
  · refine jj_iconst F (v := nI 0) dX2_contains_16 (by decide) ?_
    refine ret _ _ _ _ dX2_contains_17 (nar_z (Or.inl rfl)) ⟨b2i_f ?_, rfl⟩
    first
    | (simp [i32_lt_nle h1]; done)
    | (simp [i32_le_nlt h9]; done)
  · refine jj_iload_n F dX2_contains_4 rfl ?_
    refine jj_aload_n F dX2_contains_5 rfl ?_
    refine jj_geti F g17 (by assumption) (by rfl) dX2_contains_6 ?_
    refine jj_icmp_ge F (tgt := 16) dX2_contains_9 (by decide) (fun h9 => ?_) (fun h9 => ?_)
    · refine jj_iconst F (v := nI 0) dX2_contains_16 (by decide) ?_
      refine ret _ _ _ _ dX2_contains_17 (nar_z (Or.inl rfl)) ⟨b2i_f ?_, rfl⟩
      first
      | (simp [i32_lt_nle h1]; done)
      | (simp [i32_le_nlt h9]; done)
    · refine jj_iconst F (v := nI 1) dX2_contains_12 (by decide) ?_
      refine jj_goto F (tgt := 17) dX2_contains_13 (by decide) ?_
      exact ret _ _ _ _ dX2_contains_17 (nar_z (Or.inr rfl)) ⟨b2i_t (by simp [i32_nlt h1, i32_nle h9]), rfl⟩
set_option maxRecDepth 100000 in
set_option maxHeartbeats 1000000 in
theorem c_X2_forgetRedoOf {l : Launch} {E : Ee} {M : Mm} {ow : Int32} {n : Nat} (hn : M.1 5 1 = nI n) (h60 : n ≤ 60) : CtV l E yX2_forgetRedoOf (.code yX2_forgetRedoOf cX2_forgetRedoOf 3 none :: gl) ({ frames := 0, cells := 0, slots := 0, locals := 0 } : Room) M [.ref (E.2.2 5), .int ow] 0 0 (fun M2 => M2 = fam 7 3 n (fgF M ow) M) := by
  refine ctV_of (L0 := [some (.ref (E.2.2 5)), some (.int ow), none]) (by decide) rfl (Nat.le_of_ble_eq_true rfl) rfl ?_
  intro Z hl hE hnl F ret
  subst hE
  have in_X2 : ∀ w ∈ u_ws RX2 TX2 3, w ∈ (.code yX2_forgetRedoOf cX2_forgetRedoOf 3 none :: gl) := fun w h => List.mem_cons_of_mem _ (lay_X2 w h)
  have in_X4 : ∀ w ∈ u_ws RX4 TX4 9, w ∈ (.code yX2_forgetRedoOf cX2_forgetRedoOf 3 none :: gl) := fun w h => List.mem_cons_of_mem _ (lay_X4 w h)
  have g11 : FG Z 11 2 0 := fg_mk F (C := RX2) (T := TX2) (N := 3) in_X2 rfl (by decide) rfl (List.mem_cons_of_mem _ fk_X2_11)
  have g17 : FG Z 17 2 1 := fg_mk F (C := RX2) (T := TX2) (N := 3) in_X2 rfl (by decide) rfl (List.mem_cons_of_mem _ fk_X2_17)
  have g32 : FG Z 32 4 1 := fg_mk F (C := RX4) (T := TX4) (N := 9) in_X4 rfl (by decide) rfl (List.mem_cons_of_mem _ fk_X2_32)
  have p51 : FP Z 51 4 7 .int := fp_mk F (C := RX4) (T := TX4) (N := 9) in_X4 tyX4_ok nmX4 rfl (by decide) rfl (List.mem_cons_of_mem _ fk_X2_51) rfl (by decide +kernel)
  have kl := kd_Log
  have ke := kd_ents
  have lo : ∀ i, i ≤ n → JJ Z (0, 0) (fam 7 3 i (fgF M ow) M) 2 [some (.ref ((zE Z).2.2 5)), some (.int ow), some (.int (nI i))] [] := by
    refine jj_loop (n) ?_ ?_
    · have e5 : (fam 7 3 n (fgF M ow) M).1 5 = M.1 5 := fam_out (fun j hj e => by omega)
      refine jj_iload_n F dX2_forgetRedoOf_2 rfl ?_
      refine jj_aload_n F dX2_forgetRedoOf_3 rfl ?_
      refine jj_geti F g17 (by assumption) (by rfl) dX2_forgetRedoOf_4 ?_
      rw [e5, hn]
      refine jj_icmp_ge F (tgt := 39) dX2_forgetRedoOf_7 (by decide) (fun _ => ?_) (fun h9 => absurd (nI_le (by omega) (by omega)) h9)
      exact ret _ _ _ dX2_forgetRedoOf_39 rfl
    · intro i hi ih
      have ko := kd_op i (by omega)
      have e5 : (fam 7 3 i (fgF M ow) M).1 5 = M.1 5 := fam_out (fun j hj e => by omega)
      have eo : (fam 7 3 i (fgF M ow) M).1 (7 + 3 * i) = M.1 (7 + 3 * i) := fam_at (by omega)
      refine jj_iload_n F dX2_forgetRedoOf_2 rfl ?_
      refine jj_aload_n F dX2_forgetRedoOf_3 rfl ?_
      refine jj_geti F g17 (by assumption) (by rfl) dX2_forgetRedoOf_4 ?_
      rw [e5, hn]
      refine jj_icmp_ge F (tgt := 39) dX2_forgetRedoOf_7 (by decide) (fun h9 => absurd h9 (nI_ge (by omega) (by omega))) (fun _ => ?_)
      refine jj_aload_n F dX2_forgetRedoOf_10 rfl ?_
      refine jj_getr F g11 (by assumption) (by rfl) dX2_forgetRedoOf_11 ?_
      refine jj_iload_n F dX2_forgetRedoOf_14 rfl ?_
      refine jj_aald F (by assumption) rfl (by omega) dX2_forgetRedoOf_15 ?_
      refine jj_geti F g32 (by assumption) (by rfl) dX2_forgetRedoOf_16 ?_
      rw [eo]
      refine jj_iload_n F dX2_forgetRedoOf_19 rfl ?_
      refine jj_icmp_ne F (tgt := 33) dX2_forgetRedoOf_20 (by decide) (fun h20 => ?_) (fun h20 => ?_)
      · refine jj_iinc F dX2_forgetRedoOf_33 rfl (by first | exact iinc1 _ | rfl) (by rw [hnl]; decide) ?_
        dsimp only [lq_st, lq_clr, lq_no]
        refine jj_goto F (tgt := 2) dX2_forgetRedoOf_36 (by decide) ?_
        first
        | (rw [eo, show upd (M.1 (7 + 3 * i)) 7 (nI 0) = fgF M ow i by simp [fgF, h20], fam_s (by omega)]; exact ih)
        | (rw [fam_skip (by omega) (by simp [fgF, h20])]; exact ih)
      · refine jj_aload_n F dX2_forgetRedoOf_23 rfl ?_
        refine jj_getr F g11 (by assumption) (by rfl) dX2_forgetRedoOf_24 ?_
        refine jj_iload_n F dX2_forgetRedoOf_27 rfl ?_
        refine jj_aald F (by assumption) rfl (by omega) dX2_forgetRedoOf_28 ?_
        refine jj_iconst F (v := nI 0) dX2_forgetRedoOf_29 (by decide) ?_
        refine jj_puti F p51 (by assumption) (by rfl) dX2_forgetRedoOf_30 ?_
        refine jj_iinc F dX2_forgetRedoOf_33 rfl (by first | exact iinc1 _ | rfl) (by rw [hnl]; decide) ?_
        dsimp only [lq_st, lq_clr, lq_no]
        refine jj_goto F (tgt := 2) dX2_forgetRedoOf_36 (by decide) ?_
        first
        | (rw [eo, show upd (M.1 (7 + 3 * i)) 7 (nI 0) = fgF M ow i by simp [fgF, h20], fam_s (by omega)]; exact ih)
        | (rw [fam_skip (by omega) (by simp [fgF, h20])]; exact ih)
  refine jj_iconst F (v := nI 0) dX2_forgetRedoOf_0 (by decide) ?_
  refine jj_istore_n F dX2_forgetRedoOf_1 (by rw [hnl]; decide) ?_
  dsimp only [lq_st, lq_clr, lq_no]
  refine jj_eqM (fam_0 7 3 (fgF M ow) M).symm ?_
  exact lo 0 (by omega)
set_option maxRecDepth 100000 in
set_option maxHeartbeats 1000000 in
theorem c_X2_begin {l : Launch} {E : Ee} {M : Mm} {so ow la ti : Int32} {n : Nat} (hn : M.1 5 1 = nI n) (h60 : n < 60) : CtR l E yX2_begin (.code yX2_begin cX2_begin 6 (some (.object "SharedBoard$Operation")) :: gl) ({ frames := 1, cells := 0, slots := 0, locals := 22 } : Room) M [.ref (E.2.2 5), .int so, .int ow, .int la, .int ti] 0 0 (fun u => u = (wA (wA (fam 7 3 n (fgF M ow) M) 5 (upd (M.1 5) 1 (nI (n + 1)))) (7 + 3 * n) (opN so ow la ti), 7 + 3 * n)) := by
  refine ctR_of (L0 := [some (.ref (E.2.2 5)), some (.int so), some (.int ow), some (.int la), some (.int ti), none]) ⟨_, rfl⟩ (by decide) rfl (Nat.le_of_ble_eq_true rfl) rfl ?_
  intro Z hl hE hnl F ret
  subst hE
  have in_X2 : ∀ w ∈ u_ws RX2 TX2 3, w ∈ (.code yX2_begin cX2_begin 6 (some (.object "SharedBoard$Operation")) :: gl) := fun w h => List.mem_cons_of_mem _ (lay_X2 w h)
  have in_X4 : ∀ w ∈ u_ws RX4 TX4 9, w ∈ (.code yX2_begin cX2_begin 6 (some (.object "SharedBoard$Operation")) :: gl) := fun w h => List.mem_cons_of_mem _ (lay_X4 w h)
  have g11 : FG Z 11 2 0 := fg_mk F (C := RX2) (T := TX2) (N := 3) in_X2 rfl (by decide) rfl (List.mem_cons_of_mem _ fk_X2_11)
  have g17 : FG Z 17 2 1 := fg_mk F (C := RX2) (T := TX2) (N := 3) in_X2 rfl (by decide) rfl (List.mem_cons_of_mem _ fk_X2_17)
  have p17 : FP Z 17 2 1 .int := fp_mk F (C := RX2) (T := TX2) (N := 3) in_X2 tyX2_ok nmX2 rfl (by decide) rfl (List.mem_cons_of_mem _ fk_X2_17) rfl (by decide +kernel)
  have p29 : FP Z 29 4 0 .int := fp_mk F (C := RX4) (T := TX4) (N := 9) in_X4 tyX4_ok nmX4 rfl (by decide) rfl (List.mem_cons_of_mem _ fk_X2_29) rfl (by decide +kernel)
  have p32 : FP Z 32 4 1 .int := fp_mk F (C := RX4) (T := TX4) (N := 9) in_X4 tyX4_ok nmX4 rfl (by decide) rfl (List.mem_cons_of_mem _ fk_X2_32) rfl (by decide +kernel)
  have p35 : FP Z 35 4 2 .int := fp_mk F (C := RX4) (T := TX4) (N := 9) in_X4 tyX4_ok nmX4 rfl (by decide) rfl (List.mem_cons_of_mem _ fk_X2_35) rfl (by decide +kernel)
  have p38 : FP Z 38 4 3 .int := fp_mk F (C := RX4) (T := TX4) (N := 9) in_X4 tyX4_ok nmX4 rfl (by decide) rfl (List.mem_cons_of_mem _ fk_X2_38) rfl (by decide +kernel)
  have p41 : FP Z 41 4 4 .int := fp_mk F (C := RX4) (T := TX4) (N := 9) in_X4 tyX4_ok nmX4 rfl (by decide) rfl (List.mem_cons_of_mem _ fk_X2_41) rfl (by decide +kernel)
  have p44 : FP Z 44 4 5 .int := fp_mk F (C := RX4) (T := TX4) (N := 9) in_X4 tyX4_ok nmX4 rfl (by decide) rfl (List.mem_cons_of_mem _ fk_X2_44) rfl (by decide +kernel)
  have p47 : FP Z 47 4 6 .boolean := fp_mk F (C := RX4) (T := TX4) (N := 9) in_X4 tyX4_ok nmX4 rfl (by decide) rfl (List.mem_cons_of_mem _ fk_X2_47) rfl (by decide +kernel)
  have p51 : FP Z 51 4 7 .int := fp_mk F (C := RX4) (T := TX4) (N := 9) in_X4 tyX4_ok nmX4 rfl (by decide) rfl (List.mem_cons_of_mem _ fk_X2_51) rfl (by decide +kernel)
  have kl := kd_Log
  have ke := kd_ents
  refine jj_aload_n F dX2_begin_0 rfl ?_
  refine jj_iload_n F dX2_begin_1 rfl ?_
  refine jj_callVv (na := 1) F (c_X2_forgetRedoOf hn (by omega)) (gl_V mk_X2_25 vw_X2_forgetRedoOf) rfl rfl rfl (by decide +kernel) ⟨Nat.le_of_ble_eq_true rfl, Nat.le_of_ble_eq_true rfl⟩ (by assumption) rfl rfl rfl (Nat.le_of_ble_eq_true rfl) ⟨Nat.le_of_ble_eq_true rfl, Nat.le_of_ble_eq_true rfl⟩ dX2_begin_2 (fun M2 hp2 => ?_)
  obtain rfl := hp2.symm
  have e5 : (fam 7 3 n (fgF M ow) M).1 5 = M.1 5 := fam_out (fun j hj e => by omega)
  have ko := kd_op n (by omega)
  refine jj_aload_n F dX2_begin_5 rfl ?_
  refine jj_getr F g11 (by assumption) (by rfl) dX2_begin_6 ?_
  refine jj_aload_n F dX2_begin_9 rfl ?_
  refine jj_geti F g17 (by assumption) (by rfl) dX2_begin_10 ?_
  rw [e5, hn]
  refine jj_aald F (by assumption) rfl (by omega) dX2_begin_13 ?_
  refine jj_astore F dX2_begin_14 (by rw [hnl]; decide) ?_
  dsimp only [lq_st, lq_clr, lq_no]
  refine jj_aload_n F dX2_begin_16 rfl ?_
  refine jj_dup F dX2_begin_17 rfl ?_
  refine jj_geti F g17 (by assumption) (by rfl) dX2_begin_18 ?_
  refine jj_iconst F (v := nI 1) dX2_begin_21 (by decide) ?_
  refine jj_iadd F dX2_begin_22 ?_
  refine jj_puti F p17 (by assumption) (by rfl) dX2_begin_23 ?_
  refine jj_aload F dX2_begin_26 rfl ?_
  refine jj_iload_n F dX2_begin_28 rfl ?_
  refine jj_puti F p29 (by assumption) (by rfl) dX2_begin_29 ?_
  refine jj_aload F dX2_begin_32 rfl ?_
  refine jj_iload_n F dX2_begin_34 rfl ?_
  refine jj_puti F p32 (by assumption) (by rfl) dX2_begin_35 ?_
  refine jj_aload F dX2_begin_38 rfl ?_
  refine jj_iload_n F dX2_begin_40 rfl ?_
  refine jj_puti F p35 (by assumption) (by rfl) dX2_begin_41 ?_
  refine jj_aload F dX2_begin_44 rfl ?_
  refine jj_iconst F (v := nI 0) dX2_begin_46 (by decide) ?_
  refine jj_puti F p38 (by assumption) (by rfl) dX2_begin_47 ?_
  refine jj_aload F dX2_begin_50 rfl ?_
  refine jj_iconst F (v := nI 0) dX2_begin_52 (by decide) ?_
  refine jj_puti F p41 (by assumption) (by rfl) dX2_begin_53 ?_
  refine jj_aload F dX2_begin_56 rfl ?_
  refine jj_iload F dX2_begin_58 rfl ?_
  refine jj_puti F p44 (by assumption) (by rfl) dX2_begin_60 ?_
  refine jj_aload F dX2_begin_63 rfl ?_
  refine jj_iconst F (v := nI 1) dX2_begin_65 (by decide) ?_
  refine jj_putz F p47 (by assumption) (by rfl) (by first | exact Or.inl rfl | exact Or.inr rfl | assumption) dX2_begin_66 ?_
  refine jj_aload F dX2_begin_69 rfl ?_
  refine jj_iconst F (v := nI 0) dX2_begin_71 (by decide) ?_
  refine jj_puti F p51 (by assumption) (by rfl) dX2_begin_72 ?_
  refine jj_eqv (M2 := wA (wA (fam 7 3 n (fgF M ow) M) 5 (upd (M.1 5) 1 (nI (n + 1)))) (7 + 3 * n) (opN so ow la ti)) ?_ ?_
  · simp only [wA_wA, wA_s]
    rw [e5, hn, nI_add]
    refine meq_ob ko (fun j hj => ?_)
    have hj2 : j < 8 := (op_meq j hj).resolve_right (by omega)
    rcases (show j = 0 ∨ j = 1 ∨ j = 2 ∨ j = 3 ∨ j = 4 ∨ j = 5 ∨ j = 6 ∨ j = 7 by omega) with rfl | rfl | rfl | rfl | rfl | rfl | rfl | rfl <;> simp [upd, opN]
  refine jj_aload F dX2_begin_75 rfl ?_
  exact ret _ _ _ _ dX2_begin_77 rfl
set_option maxRecDepth 100000 in
set_option maxHeartbeats 1000000 in
theorem c_X2_operationsOf {l : Launch} {E : Ee} {M : Mm} {ow : Int32} {n : Nat} (hn : M.1 5 1 = nI n) (h60 : n ≤ 60) : CtI l E yX2_operationsOf (.code yX2_operationsOf cX2_operationsOf 4 (some .int) :: gl) ({ frames := 0, cells := 0, slots := 0, locals := 0 } : Room) M [.ref (E.2.2 5), .int ow] 0 0 (fun r M2 => r = nI (fb_ct (fun j => decide (M.1 (7 + 3 * j) 1 = ow)) n) ∧ M2 = M) := by
  refine ctI_of (L0 := [some (.ref (E.2.2 5)), some (.int ow), none, none]) (by decide) rfl (Nat.le_of_ble_eq_true rfl) rfl ?_
  intro Z hl hE hnl F ret
  subst hE
  have in_X2 : ∀ w ∈ u_ws RX2 TX2 3, w ∈ (.code yX2_operationsOf cX2_operationsOf 4 (some .int) :: gl) := fun w h => List.mem_cons_of_mem _ (lay_X2 w h)
  have in_X4 : ∀ w ∈ u_ws RX4 TX4 9, w ∈ (.code yX2_operationsOf cX2_operationsOf 4 (some .int) :: gl) := fun w h => List.mem_cons_of_mem _ (lay_X4 w h)
  have g11 : FG Z 11 2 0 := fg_mk F (C := RX2) (T := TX2) (N := 3) in_X2 rfl (by decide) rfl (List.mem_cons_of_mem _ fk_X2_11)
  have g17 : FG Z 17 2 1 := fg_mk F (C := RX2) (T := TX2) (N := 3) in_X2 rfl (by decide) rfl (List.mem_cons_of_mem _ fk_X2_17)
  have g32 : FG Z 32 4 1 := fg_mk F (C := RX4) (T := TX4) (N := 9) in_X4 rfl (by decide) rfl (List.mem_cons_of_mem _ fk_X2_32)
  have kl := kd_Log
  have ke := kd_ents
  have lo : ∀ i, i ≤ n → JJ Z (0, 0) (M) 4 [some (.ref ((zE Z).2.2 5)), some (.int ow), some (.int (nI (fb_ct (fun j => decide (M.1 (7 + 3 * j) 1 = ow)) i))), some (.int (nI i))] [] := by
    refine jj_loop (n) ?_ ?_
    · refine jj_iload_n F dX2_operationsOf_4 rfl ?_
      refine jj_aload_n F dX2_operationsOf_5 rfl ?_
      refine jj_geti F g17 (by assumption) (by rfl) dX2_operationsOf_6 ?_
      rw [hn]
      refine jj_icmp_ge F (tgt := 34) dX2_operationsOf_9 (by decide) (fun _ => ?_) (fun h9 => absurd (nI_le (by omega) (by omega)) h9)
      refine jj_iload_n F dX2_operationsOf_34 rfl ?_
      exact ret _ _ _ _ dX2_operationsOf_35 rfl ⟨rfl, rfl⟩
    · intro i hi ih
      have ko := kd_op i (by omega)
      refine jj_iload_n F dX2_operationsOf_4 rfl ?_
      refine jj_aload_n F dX2_operationsOf_5 rfl ?_
      refine jj_geti F g17 (by assumption) (by rfl) dX2_operationsOf_6 ?_
      rw [hn]
      refine jj_icmp_ge F (tgt := 34) dX2_operationsOf_9 (by decide) (fun h9 => absurd h9 (nI_ge (by omega) (by omega))) (fun _ => ?_)
      refine jj_aload_n F dX2_operationsOf_12 rfl ?_
      refine jj_getr F g11 (by assumption) (by rfl) dX2_operationsOf_13 ?_
      refine jj_iload_n F dX2_operationsOf_16 rfl ?_
      refine jj_aald F (by assumption) rfl (by omega) dX2_operationsOf_17 ?_
      refine jj_geti F g32 (by assumption) (by rfl) dX2_operationsOf_18 ?_
      refine jj_iload_n F dX2_operationsOf_21 rfl ?_
      refine jj_icmp_ne F (tgt := 28) dX2_operationsOf_22 (by decide) (fun h22 => ?_) (fun h22 => ?_)
      · refine jj_iinc F dX2_operationsOf_28 rfl (by first | exact iinc1 _ | rfl) (by rw [hnl]; decide) ?_
        dsimp only [lq_st, lq_clr, lq_no]
        refine jj_goto F (tgt := 4) dX2_operationsOf_31 (by decide) ?_
        refine jj_eqL ?_ ih
        first
        | (simp [fb_ct, h22]; done)
      · refine jj_iinc F dX2_operationsOf_25 rfl (by first | exact iinc1 _ | rfl) (by rw [hnl]; decide) ?_
        dsimp only [lq_st, lq_clr, lq_no]
        refine jj_iinc F dX2_operationsOf_28 rfl (by first | exact iinc1 _ | rfl) (by rw [hnl]; decide) ?_
        dsimp only [lq_st, lq_clr, lq_no]
        refine jj_goto F (tgt := 4) dX2_operationsOf_31 (by decide) ?_
        refine jj_eqL ?_ ih
        first
        | (simp [fb_ct, h22]; done)
  refine jj_iconst F (v := nI 0) dX2_operationsOf_0 (by decide) ?_
  refine jj_istore_n F dX2_operationsOf_1 (by rw [hnl]; decide) ?_
  dsimp only [lq_st, lq_clr, lq_no]
  refine jj_iconst F (v := nI 0) dX2_operationsOf_2 (by decide) ?_
  refine jj_istore_n F dX2_operationsOf_3 (by rw [hnl]; decide) ?_
  dsimp only [lq_st, lq_clr, lq_no]
  exact lo 0 (by omega)
set_option maxRecDepth 100000 in
set_option maxHeartbeats 1000000 in
theorem c_X2_activeOf {l : Launch} {E : Ee} {M : Mm} {ow : Int32} {n : Nat} (hn : M.1 5 1 = nI n) (h60 : n ≤ 60) : CtI l E yX2_activeOf (.code yX2_activeOf cX2_activeOf 4 (some .int) :: gl) ({ frames := 0, cells := 0, slots := 0, locals := 0 } : Room) M [.ref (E.2.2 5), .int ow] 0 0 (fun r M2 => r = nI (fb_ct (fun j => decide (M.1 (7 + 3 * j) 1 = ow) && !decide (M.1 (7 + 3 * j) 6 = 0)) n) ∧ M2 = M) := by
  refine ctI_of (L0 := [some (.ref (E.2.2 5)), some (.int ow), none, none]) (by decide) rfl (Nat.le_of_ble_eq_true rfl) rfl ?_
  intro Z hl hE hnl F ret
  subst hE
  have in_X2 : ∀ w ∈ u_ws RX2 TX2 3, w ∈ (.code yX2_activeOf cX2_activeOf 4 (some .int) :: gl) := fun w h => List.mem_cons_of_mem _ (lay_X2 w h)
  have in_X4 : ∀ w ∈ u_ws RX4 TX4 9, w ∈ (.code yX2_activeOf cX2_activeOf 4 (some .int) :: gl) := fun w h => List.mem_cons_of_mem _ (lay_X4 w h)
  have g11 : FG Z 11 2 0 := fg_mk F (C := RX2) (T := TX2) (N := 3) in_X2 rfl (by decide) rfl (List.mem_cons_of_mem _ fk_X2_11)
  have g17 : FG Z 17 2 1 := fg_mk F (C := RX2) (T := TX2) (N := 3) in_X2 rfl (by decide) rfl (List.mem_cons_of_mem _ fk_X2_17)
  have g32 : FG Z 32 4 1 := fg_mk F (C := RX4) (T := TX4) (N := 9) in_X4 rfl (by decide) rfl (List.mem_cons_of_mem _ fk_X2_32)
  have g47 : FG Z 47 4 6 := fg_mk F (C := RX4) (T := TX4) (N := 9) in_X4 rfl (by decide) rfl (List.mem_cons_of_mem _ fk_X2_47)
  have kl := kd_Log
  have ke := kd_ents
  have lo : ∀ i, i ≤ n → JJ Z (0, 0) (M) 4 [some (.ref ((zE Z).2.2 5)), some (.int ow), some (.int (nI (fb_ct (fun j => decide (M.1 (7 + 3 * j) 1 = ow) && !decide (M.1 (7 + 3 * j) 6 = 0)) i))), some (.int (nI i))] [] := by
    refine jj_loop (n) ?_ ?_
    · refine jj_iload_n F dX2_activeOf_4 rfl ?_
      refine jj_aload_n F dX2_activeOf_5 rfl ?_
      refine jj_geti F g17 (by assumption) (by rfl) dX2_activeOf_6 ?_
      rw [hn]
      refine jj_icmp_ge F (tgt := 46) dX2_activeOf_9 (by decide) (fun _ => ?_) (fun h9 => absurd (nI_le (by omega) (by omega)) h9)
      refine jj_iload_n F dX2_activeOf_46 rfl ?_
      exact ret _ _ _ _ dX2_activeOf_47 rfl ⟨rfl, rfl⟩
    · intro i hi ih
      have ko := kd_op i (by omega)
      refine jj_iload_n F dX2_activeOf_4 rfl ?_
      refine jj_aload_n F dX2_activeOf_5 rfl ?_
      refine jj_geti F g17 (by assumption) (by rfl) dX2_activeOf_6 ?_
      rw [hn]
      refine jj_icmp_ge F (tgt := 46) dX2_activeOf_9 (by decide) (fun h9 => absurd h9 (nI_ge (by omega) (by omega))) (fun _ => ?_)
      refine jj_aload_n F dX2_activeOf_12 rfl ?_
      refine jj_getr F g11 (by assumption) (by rfl) dX2_activeOf_13 ?_
      refine jj_iload_n F dX2_activeOf_16 rfl ?_
      refine jj_aald F (by assumption) rfl (by omega) dX2_activeOf_17 ?_
      refine jj_geti F g32 (by assumption) (by rfl) dX2_activeOf_18 ?_
      refine jj_iload_n F dX2_activeOf_21 rfl ?_
      refine jj_icmp_ne F (tgt := 40) dX2_activeOf_22 (by decide) (fun h22 => ?_) (fun h22 => ?_)
      · refine jj_iinc F dX2_activeOf_40 rfl (by first | exact iinc1 _ | rfl) (by rw [hnl]; decide) ?_
        dsimp only [lq_st, lq_clr, lq_no]
        refine jj_goto F (tgt := 4) dX2_activeOf_43 (by decide) ?_
        refine jj_eqL ?_ ih
        first
        | (simp [fb_ct, h22]; done)
        | (simp [fb_ct, h22, h34]; done)
      · refine jj_aload_n F dX2_activeOf_25 rfl ?_
        refine jj_getr F g11 (by assumption) (by rfl) dX2_activeOf_26 ?_
        refine jj_iload_n F dX2_activeOf_29 rfl ?_
        refine jj_aald F (by assumption) rfl (by omega) dX2_activeOf_30 ?_
        refine jj_geti F g47 (by assumption) (by rfl) dX2_activeOf_31 ?_
        refine jj_if_eq F (tgt := 40) dX2_activeOf_34 (by decide) (fun h34 => ?_) (fun h34 => ?_)
        · refine jj_iinc F dX2_activeOf_40 rfl (by first | exact iinc1 _ | rfl) (by rw [hnl]; decide) ?_
          dsimp only [lq_st, lq_clr, lq_no]
          refine jj_goto F (tgt := 4) dX2_activeOf_43 (by decide) ?_
          refine jj_eqL ?_ ih
          first
          | (simp [fb_ct, h22]; done)
          | (simp [fb_ct, h22, h34]; done)
        · refine jj_iinc F dX2_activeOf_37 rfl (by first | exact iinc1 _ | rfl) (by rw [hnl]; decide) ?_
          dsimp only [lq_st, lq_clr, lq_no]
          refine jj_iinc F dX2_activeOf_40 rfl (by first | exact iinc1 _ | rfl) (by rw [hnl]; decide) ?_
          dsimp only [lq_st, lq_clr, lq_no]
          refine jj_goto F (tgt := 4) dX2_activeOf_43 (by decide) ?_
          refine jj_eqL ?_ ih
          first
          | (simp [fb_ct, h22]; done)
          | (simp [fb_ct, h22, h34]; done)
  refine jj_iconst F (v := nI 0) dX2_activeOf_0 (by decide) ?_
  refine jj_istore_n F dX2_activeOf_1 (by rw [hnl]; decide) ?_
  dsimp only [lq_st, lq_clr, lq_no]
  refine jj_iconst F (v := nI 0) dX2_activeOf_2 (by decide) ?_
  refine jj_istore_n F dX2_activeOf_3 (by rw [hnl]; decide) ?_
  dsimp only [lq_st, lq_clr, lq_no]
  exact lo 0 (by omega)
set_option maxRecDepth 100000 in
set_option maxHeartbeats 1000000 in
theorem c_X2_redoableOf {l : Launch} {E : Ee} {M : Mm} {ow : Int32} {n : Nat} (hn : M.1 5 1 = nI n) (h60 : n ≤ 60) : CtI l E yX2_redoableOf (.code yX2_redoableOf cX2_redoableOf 4 (some .int) :: gl) ({ frames := 0, cells := 0, slots := 0, locals := 0 } : Room) M [.ref (E.2.2 5), .int ow] 0 0 (fun r M2 => r = nI (fb_ct (fun j => decide (M.1 (7 + 3 * j) 1 = ow) && !decide (M.1 (7 + 3 * j) 7 ≤ 0)) n) ∧ M2 = M) := by
  refine ctI_of (L0 := [some (.ref (E.2.2 5)), some (.int ow), none, none]) (by decide) rfl (Nat.le_of_ble_eq_true rfl) rfl ?_
  intro Z hl hE hnl F ret
  subst hE
  have in_X2 : ∀ w ∈ u_ws RX2 TX2 3, w ∈ (.code yX2_redoableOf cX2_redoableOf 4 (some .int) :: gl) := fun w h => List.mem_cons_of_mem _ (lay_X2 w h)
  have in_X4 : ∀ w ∈ u_ws RX4 TX4 9, w ∈ (.code yX2_redoableOf cX2_redoableOf 4 (some .int) :: gl) := fun w h => List.mem_cons_of_mem _ (lay_X4 w h)
  have g11 : FG Z 11 2 0 := fg_mk F (C := RX2) (T := TX2) (N := 3) in_X2 rfl (by decide) rfl (List.mem_cons_of_mem _ fk_X2_11)
  have g17 : FG Z 17 2 1 := fg_mk F (C := RX2) (T := TX2) (N := 3) in_X2 rfl (by decide) rfl (List.mem_cons_of_mem _ fk_X2_17)
  have g32 : FG Z 32 4 1 := fg_mk F (C := RX4) (T := TX4) (N := 9) in_X4 rfl (by decide) rfl (List.mem_cons_of_mem _ fk_X2_32)
  have g51 : FG Z 51 4 7 := fg_mk F (C := RX4) (T := TX4) (N := 9) in_X4 rfl (by decide) rfl (List.mem_cons_of_mem _ fk_X2_51)
  have kl := kd_Log
  have ke := kd_ents
  have lo : ∀ i, i ≤ n → JJ Z (0, 0) (M) 4 [some (.ref ((zE Z).2.2 5)), some (.int ow), some (.int (nI (fb_ct (fun j => decide (M.1 (7 + 3 * j) 1 = ow) && !decide (M.1 (7 + 3 * j) 7 ≤ 0)) i))), some (.int (nI i))] [] := by
    refine jj_loop (n) ?_ ?_
    · refine jj_iload_n F dX2_redoableOf_4 rfl ?_
      refine jj_aload_n F dX2_redoableOf_5 rfl ?_
      refine jj_geti F g17 (by assumption) (by rfl) dX2_redoableOf_6 ?_
      rw [hn]
      refine jj_icmp_ge F (tgt := 46) dX2_redoableOf_9 (by decide) (fun _ => ?_) (fun h9 => absurd (nI_le (by omega) (by omega)) h9)
      refine jj_iload_n F dX2_redoableOf_46 rfl ?_
      exact ret _ _ _ _ dX2_redoableOf_47 rfl ⟨rfl, rfl⟩
    · intro i hi ih
      have ko := kd_op i (by omega)
      refine jj_iload_n F dX2_redoableOf_4 rfl ?_
      refine jj_aload_n F dX2_redoableOf_5 rfl ?_
      refine jj_geti F g17 (by assumption) (by rfl) dX2_redoableOf_6 ?_
      rw [hn]
      refine jj_icmp_ge F (tgt := 46) dX2_redoableOf_9 (by decide) (fun h9 => absurd h9 (nI_ge (by omega) (by omega))) (fun _ => ?_)
      refine jj_aload_n F dX2_redoableOf_12 rfl ?_
      refine jj_getr F g11 (by assumption) (by rfl) dX2_redoableOf_13 ?_
      refine jj_iload_n F dX2_redoableOf_16 rfl ?_
      refine jj_aald F (by assumption) rfl (by omega) dX2_redoableOf_17 ?_
      refine jj_geti F g32 (by assumption) (by rfl) dX2_redoableOf_18 ?_
      refine jj_iload_n F dX2_redoableOf_21 rfl ?_
      refine jj_icmp_ne F (tgt := 40) dX2_redoableOf_22 (by decide) (fun h22 => ?_) (fun h22 => ?_)
      · refine jj_iinc F dX2_redoableOf_40 rfl (by first | exact iinc1 _ | rfl) (by rw [hnl]; decide) ?_
        dsimp only [lq_st, lq_clr, lq_no]
        refine jj_goto F (tgt := 4) dX2_redoableOf_43 (by decide) ?_
        refine jj_eqL ?_ ih
        first
        | (simp [fb_ct, h22]; done)
        | (simp [fb_ct, h22, h34]; done)
      · refine jj_aload_n F dX2_redoableOf_25 rfl ?_
        refine jj_getr F g11 (by assumption) (by rfl) dX2_redoableOf_26 ?_
        refine jj_iload_n F dX2_redoableOf_29 rfl ?_
        refine jj_aald F (by assumption) rfl (by omega) dX2_redoableOf_30 ?_
        refine jj_geti F g51 (by assumption) (by rfl) dX2_redoableOf_31 ?_
        refine jj_if_le F (tgt := 40) dX2_redoableOf_34 (by decide) (fun h34 => ?_) (fun h34 => ?_)
        · refine jj_iinc F dX2_redoableOf_40 rfl (by first | exact iinc1 _ | rfl) (by rw [hnl]; decide) ?_
          dsimp only [lq_st, lq_clr, lq_no]
          refine jj_goto F (tgt := 4) dX2_redoableOf_43 (by decide) ?_
          refine jj_eqL ?_ ih
          first
          | (simp [fb_ct, h22]; done)
          | (simp [fb_ct, h22, h34]; done)
        · refine jj_iinc F dX2_redoableOf_37 rfl (by first | exact iinc1 _ | rfl) (by rw [hnl]; decide) ?_
          dsimp only [lq_st, lq_clr, lq_no]
          refine jj_iinc F dX2_redoableOf_40 rfl (by first | exact iinc1 _ | rfl) (by rw [hnl]; decide) ?_
          dsimp only [lq_st, lq_clr, lq_no]
          refine jj_goto F (tgt := 4) dX2_redoableOf_43 (by decide) ?_
          refine jj_eqL ?_ ih
          first
          | (simp [fb_ct, h22]; done)
          | (simp [fb_ct, h22, h34]; done)
  refine jj_iconst F (v := nI 0) dX2_redoableOf_0 (by decide) ?_
  refine jj_istore_n F dX2_redoableOf_1 (by rw [hnl]; decide) ?_
  dsimp only [lq_st, lq_clr, lq_no]
  refine jj_iconst F (v := nI 0) dX2_redoableOf_2 (by decide) ?_
  refine jj_istore_n F dX2_redoableOf_3 (by rw [hnl]; decide) ?_
  dsimp only [lq_st, lq_clr, lq_no]
  exact lo 0 (by omega)
set_option maxRecDepth 100000 in
set_option maxHeartbeats 1000000 in
theorem c_X2_latestActive {l : Launch} {E : Ee} {M : Mm} {ow : Int32} {n : Nat} (hn : M.1 5 1 = nI n) (h60 : n ≤ 60) : CtI l E yX2_latestActive (.code yX2_latestActive cX2_latestActive 4 (some .int) :: gl) ({ frames := 0, cells := 0, slots := 0, locals := 0 } : Room) M [.ref (E.2.2 5), .int ow] 0 0 (fun r M2 => r = ltF M ow n ∧ M2 = M) := by
  refine ctI_of (L0 := [some (.ref (E.2.2 5)), some (.int ow), none, none]) (by decide) rfl (Nat.le_of_ble_eq_true rfl) rfl ?_
  intro Z hl hE hnl F ret
  subst hE
  have in_X2 : ∀ w ∈ u_ws RX2 TX2 3, w ∈ (.code yX2_latestActive cX2_latestActive 4 (some .int) :: gl) := fun w h => List.mem_cons_of_mem _ (lay_X2 w h)
  have in_X4 : ∀ w ∈ u_ws RX4 TX4 9, w ∈ (.code yX2_latestActive cX2_latestActive 4 (some .int) :: gl) := fun w h => List.mem_cons_of_mem _ (lay_X4 w h)
  have g11 : FG Z 11 2 0 := fg_mk F (C := RX2) (T := TX2) (N := 3) in_X2 rfl (by decide) rfl (List.mem_cons_of_mem _ fk_X2_11)
  have g17 : FG Z 17 2 1 := fg_mk F (C := RX2) (T := TX2) (N := 3) in_X2 rfl (by decide) rfl (List.mem_cons_of_mem _ fk_X2_17)
  have g32 : FG Z 32 4 1 := fg_mk F (C := RX4) (T := TX4) (N := 9) in_X4 rfl (by decide) rfl (List.mem_cons_of_mem _ fk_X2_32)
  have g47 : FG Z 47 4 6 := fg_mk F (C := RX4) (T := TX4) (N := 9) in_X4 rfl (by decide) rfl (List.mem_cons_of_mem _ fk_X2_47)
  have kl := kd_Log
  have ke := kd_ents
  have lo : ∀ i, i ≤ n → JJ Z (0, 0) (M) 4 [some (.ref ((zE Z).2.2 5)), some (.int ow), some (.int (ltF M ow i)), some (.int (nI i))] [] := by
    refine jj_loop (n) ?_ ?_
    · refine jj_iload_n F dX2_latestActive_4 rfl ?_
      refine jj_aload_n F dX2_latestActive_5 rfl ?_
      refine jj_geti F g17 (by assumption) (by rfl) dX2_latestActive_6 ?_
      rw [hn]
      refine jj_icmp_ge F (tgt := 45) dX2_latestActive_9 (by decide) (fun _ => ?_) (fun h9 => absurd (nI_le (by omega) (by omega)) h9)
      refine jj_iload_n F dX2_latestActive_45 rfl ?_
      exact ret _ _ _ _ dX2_latestActive_46 rfl ⟨rfl, rfl⟩
    · intro i hi ih
      have ko := kd_op i (by omega)
      refine jj_iload_n F dX2_latestActive_4 rfl ?_
      refine jj_aload_n F dX2_latestActive_5 rfl ?_
      refine jj_geti F g17 (by assumption) (by rfl) dX2_latestActive_6 ?_
      rw [hn]
      refine jj_icmp_ge F (tgt := 45) dX2_latestActive_9 (by decide) (fun h9 => absurd h9 (nI_ge (by omega) (by omega))) (fun _ => ?_)
      refine jj_aload_n F dX2_latestActive_12 rfl ?_
      refine jj_getr F g11 (by assumption) (by rfl) dX2_latestActive_13 ?_
      refine jj_iload_n F dX2_latestActive_16 rfl ?_
      refine jj_aald F (by assumption) rfl (by omega) dX2_latestActive_17 ?_
      refine jj_geti F g47 (by assumption) (by rfl) dX2_latestActive_18 ?_
      refine jj_if_eq F (tgt := 39) dX2_latestActive_21 (by decide) (fun h21 => ?_) (fun h21 => ?_)
      · refine jj_iinc F dX2_latestActive_39 rfl (by first | exact iinc1 _ | rfl) (by rw [hnl]; decide) ?_
        dsimp only [lq_st, lq_clr, lq_no]
        refine jj_goto F (tgt := 4) dX2_latestActive_42 (by decide) ?_
        refine jj_eqL ?_ ih
        first
        | (simp [ltF, h21]; done)
        | (simp [ltF, h21, h34]; done)
      · refine jj_aload_n F dX2_latestActive_24 rfl ?_
        refine jj_getr F g11 (by assumption) (by rfl) dX2_latestActive_25 ?_
        refine jj_iload_n F dX2_latestActive_28 rfl ?_
        refine jj_aald F (by assumption) rfl (by omega) dX2_latestActive_29 ?_
        refine jj_geti F g32 (by assumption) (by rfl) dX2_latestActive_30 ?_
        refine jj_iload_n F dX2_latestActive_33 rfl ?_
        refine jj_icmp_ne F (tgt := 39) dX2_latestActive_34 (by decide) (fun h34 => ?_) (fun h34 => ?_)
        · refine jj_iinc F dX2_latestActive_39 rfl (by first | exact iinc1 _ | rfl) (by rw [hnl]; decide) ?_
          dsimp only [lq_st, lq_clr, lq_no]
          refine jj_goto F (tgt := 4) dX2_latestActive_42 (by decide) ?_
          refine jj_eqL ?_ ih
          first
          | (simp [ltF, h21]; done)
          | (simp [ltF, h21, h34]; done)
        · refine jj_iload_n F dX2_latestActive_37 rfl ?_
          refine jj_istore_n F dX2_latestActive_38 (by rw [hnl]; decide) ?_
          dsimp only [lq_st, lq_clr, lq_no]
          refine jj_iinc F dX2_latestActive_39 rfl (by first | exact iinc1 _ | rfl) (by rw [hnl]; decide) ?_
          dsimp only [lq_st, lq_clr, lq_no]
          refine jj_goto F (tgt := 4) dX2_latestActive_42 (by decide) ?_
          refine jj_eqL ?_ ih
          first
          | (simp [ltF, h21]; done)
          | (simp [ltF, h21, h34]; done)
  refine jj_iconst F (v := -1) dX2_latestActive_0 (by decide) ?_
  refine jj_istore_n F dX2_latestActive_1 (by rw [hnl]; decide) ?_
  dsimp only [lq_st, lq_clr, lq_no]
  refine jj_iconst F (v := nI 0) dX2_latestActive_2 (by decide) ?_
  refine jj_istore_n F dX2_latestActive_3 (by rw [hnl]; decide) ?_
  dsimp only [lq_st, lq_clr, lq_no]
  exact lo 0 (by omega)
theorem less5 (a b c d e f : Option Value) : ∀ (i : Nat) (v : Value), ([a, b, c, d, e, none] : List (Option Value))[i]? = some (some v) → ([a, b, c, d, e, f] : List (Option Value))[i]? = some (some v)
  | 0, _, h => h
  | 1, _, h => h
  | 2, _, h => h
  | 3, _, h => h
  | 4, _, h => h
  | 5, _, h => by simp at h
  | n + 6, _, h => by simp at h
set_option maxRecDepth 100000 in
set_option maxHeartbeats 1000000 in
theorem c_X2_lastUndone {l : Launch} {E : Ee} {M : Mm} {ow : Int32} {n : Nat} (hn : M.1 5 1 = nI n) (h60 : n ≤ 60) : CtI l E yX2_lastUndone (.code yX2_lastUndone cX2_lastUndone 6 (some .int) :: gl) ({ frames := 0, cells := 0, slots := 0, locals := 0 } : Room) M [.ref (E.2.2 5), .int ow] 0 0 (fun r M2 => r = (luF M ow n).1 ∧ M2 = M) := by
  refine ctI_of (L0 := [some (.ref (E.2.2 5)), some (.int ow), none, none, none, none]) (by decide) rfl (Nat.le_of_ble_eq_true rfl) rfl ?_
  intro Z hl hE hnl F ret
  subst hE
  have in_X2 : ∀ w ∈ u_ws RX2 TX2 3, w ∈ (.code yX2_lastUndone cX2_lastUndone 6 (some .int) :: gl) := fun w h => List.mem_cons_of_mem _ (lay_X2 w h)
  have in_X4 : ∀ w ∈ u_ws RX4 TX4 9, w ∈ (.code yX2_lastUndone cX2_lastUndone 6 (some .int) :: gl) := fun w h => List.mem_cons_of_mem _ (lay_X4 w h)
  have g11 : FG Z 11 2 0 := fg_mk F (C := RX2) (T := TX2) (N := 3) in_X2 rfl (by decide) rfl (List.mem_cons_of_mem _ fk_X2_11)
  have g17 : FG Z 17 2 1 := fg_mk F (C := RX2) (T := TX2) (N := 3) in_X2 rfl (by decide) rfl (List.mem_cons_of_mem _ fk_X2_17)
  have g32 : FG Z 32 4 1 := fg_mk F (C := RX4) (T := TX4) (N := 9) in_X4 rfl (by decide) rfl (List.mem_cons_of_mem _ fk_X2_32)
  have g51 : FG Z 51 4 7 := fg_mk F (C := RX4) (T := TX4) (N := 9) in_X4 rfl (by decide) rfl (List.mem_cons_of_mem _ fk_X2_51)
  have kl := kd_Log
  have ke := kd_ents
  have lo : ∀ i, i ≤ n → JJ Z (0, 0) (M) 7 [some (.ref ((zE Z).2.2 5)), some (.int ow), some (.int (luF M ow i).1), some (.int (luF M ow i).2), some (.int (nI i)), none] [] := by
    refine jj_loop (n) ?_ ?_
    · refine jj_iload F dX2_lastUndone_7 rfl ?_
      refine jj_aload_n F dX2_lastUndone_9 rfl ?_
      refine jj_geti F g17 (by assumption) (by rfl) dX2_lastUndone_10 ?_
      rw [hn]
      refine jj_icmp_ge F (tgt := 58) dX2_lastUndone_13 (by decide) (fun _ => ?_) (fun h9 => absurd (nI_le (by omega) (by omega)) h9)
      refine jj_iload_n F dX2_lastUndone_58 rfl ?_
      exact ret _ _ _ _ dX2_lastUndone_59 rfl ⟨rfl, rfl⟩
    · intro i hi ih
      have ko := kd_op i (by omega)
      refine jj_iload F dX2_lastUndone_7 rfl ?_
      refine jj_aload_n F dX2_lastUndone_9 rfl ?_
      refine jj_geti F g17 (by assumption) (by rfl) dX2_lastUndone_10 ?_
      rw [hn]
      refine jj_icmp_ge F (tgt := 58) dX2_lastUndone_13 (by decide) (fun h9 => absurd h9 (nI_ge (by omega) (by omega))) (fun _ => ?_)
      refine jj_aload_n F dX2_lastUndone_16 rfl ?_
      refine jj_getr F g11 (by assumption) (by rfl) dX2_lastUndone_17 ?_
      refine jj_iload F dX2_lastUndone_20 rfl ?_
      refine jj_aald F (by assumption) rfl (by omega) dX2_lastUndone_22 ?_
      refine jj_astore F dX2_lastUndone_23 (by rw [hnl]; decide) ?_
      dsimp only [lq_st, lq_clr, lq_no]
      refine jj_aload F dX2_lastUndone_25 rfl ?_
      refine jj_geti F g32 (by assumption) (by rfl) dX2_lastUndone_27 ?_
      refine jj_iload_n F dX2_lastUndone_30 rfl ?_
      refine jj_icmp_ne F (tgt := 52) dX2_lastUndone_31 (by decide) (fun h31 => ?_) (fun h31 => ?_)
      · refine jj_iinc F dX2_lastUndone_52 rfl (by first | exact iinc1 _ | rfl) (by rw [hnl]; decide) ?_
        dsimp only [lq_st, lq_clr, lq_no]
        refine jj_goto F (tgt := 7) dX2_lastUndone_55 (by decide) ?_
        refine jj_less (L2 := [some (.ref ((zE Z).2.2 5)), some (.int ow), some (.int (luF M ow (i + 1)).1), some (.int (luF M ow (i + 1)).2), some (.int (nI (i + 1))), none]) ?_ ih
        first
        | (simp only [luF, h31, false_and, if_false]; exact less5 _ _ _ _ _ _)
        | (simp only [luF, h31, i32_le_nlt h40, and_false, if_false]; exact less5 _ _ _ _ _ _)
        | (simp only [luF, h31, i32_nle h40, true_and, if_true]; exact less5 _ _ _ _ _ _)
      · refine jj_aload F dX2_lastUndone_34 rfl ?_
        refine jj_geti F g51 (by assumption) (by rfl) dX2_lastUndone_36 ?_
        refine jj_iload_n F dX2_lastUndone_39 rfl ?_
        refine jj_icmp_le F (tgt := 52) dX2_lastUndone_40 (by decide) (fun h40 => ?_) (fun h40 => ?_)
        · refine jj_iinc F dX2_lastUndone_52 rfl (by first | exact iinc1 _ | rfl) (by rw [hnl]; decide) ?_
          dsimp only [lq_st, lq_clr, lq_no]
          refine jj_goto F (tgt := 7) dX2_lastUndone_55 (by decide) ?_
          refine jj_less (L2 := [some (.ref ((zE Z).2.2 5)), some (.int ow), some (.int (luF M ow (i + 1)).1), some (.int (luF M ow (i + 1)).2), some (.int (nI (i + 1))), none]) ?_ ih
          first
          | (simp only [luF, h31, false_and, if_false]; exact less5 _ _ _ _ _ _)
          | (simp only [luF, h31, i32_le_nlt h40, and_false, if_false]; exact less5 _ _ _ _ _ _)
          | (simp only [luF, h31, i32_nle h40, true_and, if_true]; exact less5 _ _ _ _ _ _)
        · refine jj_iload F dX2_lastUndone_43 rfl ?_
          refine jj_istore_n F dX2_lastUndone_45 (by rw [hnl]; decide) ?_
          dsimp only [lq_st, lq_clr, lq_no]
          refine jj_aload F dX2_lastUndone_46 rfl ?_
          refine jj_geti F g51 (by assumption) (by rfl) dX2_lastUndone_48 ?_
          refine jj_istore_n F dX2_lastUndone_51 (by rw [hnl]; decide) ?_
          dsimp only [lq_st, lq_clr, lq_no]
          refine jj_iinc F dX2_lastUndone_52 rfl (by first | exact iinc1 _ | rfl) (by rw [hnl]; decide) ?_
          dsimp only [lq_st, lq_clr, lq_no]
          refine jj_goto F (tgt := 7) dX2_lastUndone_55 (by decide) ?_
          refine jj_less (L2 := [some (.ref ((zE Z).2.2 5)), some (.int ow), some (.int (luF M ow (i + 1)).1), some (.int (luF M ow (i + 1)).2), some (.int (nI (i + 1))), none]) ?_ ih
          first
          | (simp only [luF, h31, false_and, if_false]; exact less5 _ _ _ _ _ _)
          | (simp only [luF, h31, i32_le_nlt h40, and_false, if_false]; exact less5 _ _ _ _ _ _)
          | (simp only [luF, h31, i32_nle h40, true_and, if_true]; exact less5 _ _ _ _ _ _)
  refine jj_iconst F (v := -1) dX2_lastUndone_0 (by decide) ?_
  refine jj_istore_n F dX2_lastUndone_1 (by rw [hnl]; decide) ?_
  dsimp only [lq_st, lq_clr, lq_no]
  refine jj_iconst F (v := nI 0) dX2_lastUndone_2 (by decide) ?_
  refine jj_istore_n F dX2_lastUndone_3 (by rw [hnl]; decide) ?_
  dsimp only [lq_st, lq_clr, lq_no]
  refine jj_iconst F (v := nI 0) dX2_lastUndone_4 (by decide) ?_
  refine jj_istore F dX2_lastUndone_5 (by rw [hnl]; decide) ?_
  dsimp only [lq_st, lq_clr, lq_no]
  exact lo 0 (by omega)
set_option maxRecDepth 100000 in
set_option maxHeartbeats 1000000 in
theorem c_X2_switchOff {l : Launch} {E : Ee} {M : Mm} {q : Nat} (hq : q < 60) : CtV l E yX2_switchOff (.code yX2_switchOff cX2_switchOff 2 none :: gl) ({ frames := 0, cells := 0, slots := 0, locals := 0 } : Room) M [.ref (E.2.2 5), .int (nI q)] 0 0 (fun M2 => M2 = wA (wA M 5 (upd (M.1 5) 2 (M.1 5 2 + nI 1))) (7 + 3 * q) (upd (upd (M.1 (7 + 3 * q)) 6 (nI 0)) 7 (M.1 5 2 + nI 1))) := by
  refine ctV_of (L0 := [some (.ref (E.2.2 5)), some (.int (nI q))]) (by decide) rfl (Nat.le_of_ble_eq_true rfl) rfl ?_
  intro Z hl hE hnl F ret
  subst hE
  have in_X2 : ∀ w ∈ u_ws RX2 TX2 3, w ∈ (.code yX2_switchOff cX2_switchOff 2 none :: gl) := fun w h => List.mem_cons_of_mem _ (lay_X2 w h)
  have in_X4 : ∀ w ∈ u_ws RX4 TX4 9, w ∈ (.code yX2_switchOff cX2_switchOff 2 none :: gl) := fun w h => List.mem_cons_of_mem _ (lay_X4 w h)
  have g11 : FG Z 11 2 0 := fg_mk F (C := RX2) (T := TX2) (N := 3) in_X2 rfl (by decide) rfl (List.mem_cons_of_mem _ fk_X2_11)
  have g21 : FG Z 21 2 2 := fg_mk F (C := RX2) (T := TX2) (N := 3) in_X2 rfl (by decide) rfl (List.mem_cons_of_mem _ fk_X2_21)
  have p21 : FP Z 21 2 2 .int := fp_mk F (C := RX2) (T := TX2) (N := 3) in_X2 tyX2_ok nmX2 rfl (by decide) rfl (List.mem_cons_of_mem _ fk_X2_21) rfl (by decide +kernel)
  have p47 : FP Z 47 4 6 .boolean := fp_mk F (C := RX4) (T := TX4) (N := 9) in_X4 tyX4_ok nmX4 rfl (by decide) rfl (List.mem_cons_of_mem _ fk_X2_47) rfl (by decide +kernel)
  have p51 : FP Z 51 4 7 .int := fp_mk F (C := RX4) (T := TX4) (N := 9) in_X4 tyX4_ok nmX4 rfl (by decide) rfl (List.mem_cons_of_mem _ fk_X2_51) rfl (by decide +kernel)
  have kl := kd_Log
  have ke := kd_ents
  have ko := kd_op q hq
  refine jj_aload_n F dX2_switchOff_0 rfl ?_
  refine jj_dup F dX2_switchOff_1 rfl ?_
  refine jj_geti F g21 (by assumption) (by rfl) dX2_switchOff_2 ?_
  refine jj_iconst F (v := nI 1) dX2_switchOff_5 (by decide) ?_
  refine jj_iadd F dX2_switchOff_6 ?_
  refine jj_puti F p21 (by assumption) (by rfl) dX2_switchOff_7 ?_
  refine jj_aload_n F dX2_switchOff_10 rfl ?_
  refine jj_getr F g11 (by assumption) (by rfl) dX2_switchOff_11 ?_
  refine jj_iload_n F dX2_switchOff_14 rfl ?_
  refine jj_aald F (by assumption) rfl (by omega) dX2_switchOff_15 ?_
  refine jj_iconst F (v := nI 0) dX2_switchOff_16 (by decide) ?_
  refine jj_putz F p47 (by assumption) (by rfl) (by first | exact Or.inl rfl | exact Or.inr rfl | assumption) dX2_switchOff_17 ?_
  refine jj_aload_n F dX2_switchOff_20 rfl ?_
  refine jj_getr F g11 (by assumption) (by rfl) dX2_switchOff_21 ?_
  refine jj_iload_n F dX2_switchOff_24 rfl ?_
  refine jj_aald F (by assumption) rfl (by omega) dX2_switchOff_25 ?_
  refine jj_aload_n F dX2_switchOff_26 rfl ?_
  refine jj_geti F g21 (by assumption) (by rfl) dX2_switchOff_27 ?_
  refine jj_puti F p51 (by assumption) (by rfl) dX2_switchOff_30 ?_
  refine ret _ _ _ dX2_switchOff_33 ?_
  have e5 : (7 + 3 * q : Nat) ≠ 5 := by omega
  simp only [wA_s, wA_wA]
  rw [wA_n e5, wA_n (Ne.symm e5), wA_s]
  simp [upd]
set_option maxRecDepth 100000 in
set_option maxHeartbeats 1000000 in
theorem c_X2_switchOn {l : Launch} {E : Ee} {M : Mm} {q : Nat} (hq : q < 60) : CtV l E yX2_switchOn (.code yX2_switchOn cX2_switchOn 2 none :: gl) ({ frames := 0, cells := 0, slots := 0, locals := 0 } : Room) M [.ref (E.2.2 5), .int (nI q)] 0 0 (fun M2 => M2 = wA M (7 + 3 * q) (upd (upd (M.1 (7 + 3 * q)) 6 (nI 1)) 7 (nI 0))) := by
  refine ctV_of (L0 := [some (.ref (E.2.2 5)), some (.int (nI q))]) (by decide) rfl (Nat.le_of_ble_eq_true rfl) rfl ?_
  intro Z hl hE hnl F ret
  subst hE
  have in_X2 : ∀ w ∈ u_ws RX2 TX2 3, w ∈ (.code yX2_switchOn cX2_switchOn 2 none :: gl) := fun w h => List.mem_cons_of_mem _ (lay_X2 w h)
  have in_X4 : ∀ w ∈ u_ws RX4 TX4 9, w ∈ (.code yX2_switchOn cX2_switchOn 2 none :: gl) := fun w h => List.mem_cons_of_mem _ (lay_X4 w h)
  have g11 : FG Z 11 2 0 := fg_mk F (C := RX2) (T := TX2) (N := 3) in_X2 rfl (by decide) rfl (List.mem_cons_of_mem _ fk_X2_11)
  have p47 : FP Z 47 4 6 .boolean := fp_mk F (C := RX4) (T := TX4) (N := 9) in_X4 tyX4_ok nmX4 rfl (by decide) rfl (List.mem_cons_of_mem _ fk_X2_47) rfl (by decide +kernel)
  have p51 : FP Z 51 4 7 .int := fp_mk F (C := RX4) (T := TX4) (N := 9) in_X4 tyX4_ok nmX4 rfl (by decide) rfl (List.mem_cons_of_mem _ fk_X2_51) rfl (by decide +kernel)
  have kl := kd_Log
  have ke := kd_ents
  have ko := kd_op q hq
  refine jj_aload_n F dX2_switchOn_0 rfl ?_
  refine jj_getr F g11 (by assumption) (by rfl) dX2_switchOn_1 ?_
  refine jj_iload_n F dX2_switchOn_4 rfl ?_
  refine jj_aald F (by assumption) rfl (by omega) dX2_switchOn_5 ?_
  refine jj_iconst F (v := nI 1) dX2_switchOn_6 (by decide) ?_
  refine jj_putz F p47 (by assumption) (by rfl) (by first | exact Or.inl rfl | exact Or.inr rfl | assumption) dX2_switchOn_7 ?_
  refine jj_aload_n F dX2_switchOn_10 rfl ?_
  refine jj_getr F g11 (by assumption) (by rfl) dX2_switchOn_11 ?_
  refine jj_iload_n F dX2_switchOn_14 rfl ?_
  refine jj_aald F (by assumption) rfl (by omega) dX2_switchOn_15 ?_
  refine jj_iconst F (v := nI 0) dX2_switchOn_16 (by decide) ?_
  refine jj_puti F p51 (by assumption) (by rfl) dX2_switchOn_17 ?_
  refine ret _ _ _ dX2_switchOn_20 ?_
  simp only [wA_s, wA_wA]
set_option maxRecDepth 100000 in
set_option maxHeartbeats 1000000 in
theorem c_X2_goBack {l : Launch} {E : Ee} {M : Mm} {m n : Nat} (hm : m < 6) (hs : M.1 (460 + 3 * m) 1 = nI n) (h60 : n ≤ 60) (hb : ∀ j, j < n → M.1 (460 + 3 * m + 1) j = 0 ∨ M.1 (460 + 3 * m + 1) j = 1) : CtV l E yX2_goBack (.code yX2_goBack cX2_goBack 3 none :: gl) ({ frames := 0, cells := 0, slots := 0, locals := 0 } : Room) M [.ref (E.2.2 5), .ref (E.2.2 (460 + 3 * m))] 0 0 (fun M2 => M2 = fam 7 3 n (gbF M m) (wA M 5 (upd (M.1 5) 1 (nI n)))) := by
  refine ctV_of (L0 := [some (.ref (E.2.2 5)), some (.ref (E.2.2 (460 + 3 * m))), none]) (by decide) rfl (Nat.le_of_ble_eq_true rfl) rfl ?_
  intro Z hl hE hnl F ret
  subst hE
  have in_X2 : ∀ w ∈ u_ws RX2 TX2 3, w ∈ (.code yX2_goBack cX2_goBack 3 none :: gl) := fun w h => List.mem_cons_of_mem _ (lay_X2 w h)
  have in_X3 : ∀ w ∈ u_ws RX3 TX3 4, w ∈ (.code yX2_goBack cX2_goBack 3 none :: gl) := fun w h => List.mem_cons_of_mem _ (lay_X3 w h)
  have in_X4 : ∀ w ∈ u_ws RX4 TX4 9, w ∈ (.code yX2_goBack cX2_goBack 3 none :: gl) := fun w h => List.mem_cons_of_mem _ (lay_X4 w h)
  have g11 : FG Z 11 2 0 := fg_mk F (C := RX2) (T := TX2) (N := 3) in_X2 rfl (by decide) rfl (List.mem_cons_of_mem _ fk_X2_11)
  have g17 : FG Z 17 2 1 := fg_mk F (C := RX2) (T := TX2) (N := 3) in_X2 rfl (by decide) rfl (List.mem_cons_of_mem _ fk_X2_17)
  have g54 : FG Z 54 3 1 := fg_mk F (C := RX3) (T := TX3) (N := 4) in_X3 rfl (by decide) rfl (List.mem_cons_of_mem _ fk_X2_54)
  have g57 : FG Z 57 3 2 := fg_mk F (C := RX3) (T := TX3) (N := 4) in_X3 rfl (by decide) rfl (List.mem_cons_of_mem _ fk_X2_57)
  have p17 : FP Z 17 2 1 .int := fp_mk F (C := RX2) (T := TX2) (N := 3) in_X2 tyX2_ok nmX2 rfl (by decide) rfl (List.mem_cons_of_mem _ fk_X2_17) rfl (by decide +kernel)
  have p47 : FP Z 47 4 6 .boolean := fp_mk F (C := RX4) (T := TX4) (N := 9) in_X4 tyX4_ok nmX4 rfl (by decide) rfl (List.mem_cons_of_mem _ fk_X2_47) rfl (by decide +kernel)
  have p51 : FP Z 51 4 7 .int := fp_mk F (C := RX4) (T := TX4) (N := 9) in_X4 tyX4_ok nmX4 rfl (by decide) rfl (List.mem_cons_of_mem _ fk_X2_51) rfl (by decide +kernel)
  have kl := kd_Log
  have ke := kd_ents
  have km := kd_mk0 m hm
  have km1 := kd_mk1 m hm
  have lo : ∀ i, i ≤ n → JJ Z (0, 0) (fam 7 3 i (gbF M m) (wA M 5 (upd (M.1 5) 1 (nI n)))) 10 [some (.ref ((zE Z).2.2 5)), some (.ref ((zE Z).2.2 (460 + 3 * m))), some (.int (nI i))] [] := by
    refine jj_loop (n) ?_ ?_
    · have e5 : (fam 7 3 n (gbF M m) (wA M 5 (upd (M.1 5) 1 (nI n)))).1 5 1 = nI n := by rw [fam_out (fun j hj e => by omega), wA_s]; simp [upd]
      refine jj_iload_n F dX2_goBack_10 rfl ?_
      refine jj_aload_n F dX2_goBack_11 rfl ?_
      refine jj_geti F g17 (by assumption) (by rfl) dX2_goBack_12 ?_
      rw [e5]
      refine jj_icmp_ge F (tgt := 49) dX2_goBack_15 (by decide) (fun _ => ?_) (fun h9 => absurd (nI_le (by omega) (by omega)) h9)
      exact ret _ _ _ dX2_goBack_49 rfl
    · intro i hi ih
      have ko := kd_op i (by omega)
      have e5 : (fam 7 3 i (gbF M m) (wA M 5 (upd (M.1 5) 1 (nI n)))).1 5 1 = nI n := by rw [fam_out (fun j hj e => by omega), wA_s]; simp [upd]
      have eo : (fam 7 3 i (gbF M m) (wA M 5 (upd (M.1 5) 1 (nI n)))).1 (7 + 3 * i) = M.1 (7 + 3 * i) := by rw [fam_at (by omega), wA_n (by omega)]
      have em : (fam 7 3 i (gbF M m) (wA M 5 (upd (M.1 5) 1 (nI n)))).1 (460 + 3 * m + 1) i = M.1 (460 + 3 * m + 1) i := by rw [fam_out (fun j hj e => by omega), wA_n (by omega)]
      have hbi := hb i (by omega)
      refine jj_iload_n F dX2_goBack_10 rfl ?_
      refine jj_aload_n F dX2_goBack_11 rfl ?_
      refine jj_geti F g17 (by assumption) (by rfl) dX2_goBack_12 ?_
      rw [e5]
      refine jj_icmp_ge F (tgt := 49) dX2_goBack_15 (by decide) (fun h9 => absurd h9 (nI_ge (by omega) (by omega))) (fun _ => ?_)
      refine jj_aload_n F dX2_goBack_18 rfl ?_
      refine jj_getr F g11 (by assumption) (by rfl) dX2_goBack_19 ?_
      refine jj_iload_n F dX2_goBack_22 rfl ?_
      refine jj_aald F (by assumption) rfl (by omega) dX2_goBack_23 ?_
      refine jj_aload_n F dX2_goBack_24 rfl ?_
      refine jj_getr F g57 (by assumption) (by rfl) dX2_goBack_25 ?_
      refine jj_iload_n F dX2_goBack_28 rfl ?_
      refine jj_zald F (by assumption) rfl (by omega) dX2_goBack_29 ?_
      rw [em]
      refine jj_putz F p47 (by assumption) (by rfl) (by first | exact Or.inl rfl | exact Or.inr rfl | assumption) dX2_goBack_30 ?_
      refine jj_aload_n F dX2_goBack_33 rfl ?_
      refine jj_getr F g11 (by assumption) (by rfl) dX2_goBack_34 ?_
      refine jj_iload_n F dX2_goBack_37 rfl ?_
      refine jj_aald F (by assumption) rfl (by omega) dX2_goBack_38 ?_
      refine jj_iconst F (v := nI 0) dX2_goBack_39 (by decide) ?_
      refine jj_puti F p51 (by assumption) (by rfl) dX2_goBack_40 ?_
      refine jj_iinc F dX2_goBack_43 rfl (by first | exact iinc1 _ | rfl) (by rw [hnl]; decide) ?_
      dsimp only [lq_st, lq_clr, lq_no]
      refine jj_goto F (tgt := 10) dX2_goBack_46 (by decide) ?_
      simp only [wA_s, wA_wA]
      rw [eo, show upd (upd (M.1 (7 + 3 * i)) 6 (M.1 (460 + 3 * m + 1) i)) 7 (nI 0) = gbF M m i from rfl, fam_s (by omega)]
      exact ih
  refine jj_aload_n F dX2_goBack_0 rfl ?_
  refine jj_aload_n F dX2_goBack_1 rfl ?_
  refine jj_geti F g54 (by assumption) (by rfl) dX2_goBack_2 ?_
  rw [hs]
  refine jj_puti F p17 (by assumption) (by rfl) dX2_goBack_5 ?_
  refine jj_iconst F (v := nI 0) dX2_goBack_8 (by decide) ?_
  refine jj_istore_n F dX2_goBack_9 (by rw [hnl]; decide) ?_
  dsimp only [lq_st, lq_clr, lq_no]
  refine jj_eqM (fam_0 7 3 (gbF M m) _).symm ?_
  exact lo 0 (by omega)
set_option maxRecDepth 100000 in
set_option maxHeartbeats 1000000 in
theorem c_X2_activeOperations {l : Launch} {E : Ee} {M : Mm} {n : Nat} (hn : M.1 5 1 = nI n) (h60 : n ≤ 60) : CtI l E yX2_activeOperations (.code yX2_activeOperations cX2_activeOperations 3 (some .int) :: gl) ({ frames := 1, cells := 0, slots := 0, locals := 23 } : Room) M [.ref (E.2.2 5)] 0 0 (fun r M2 => r = nI (fb_sm (fun ow => fb_ct (fun j => decide (M.1 (7 + 3 * j) 1 = nI ow) && !decide (M.1 (7 + 3 * j) 6 = 0)) n) 5) ∧ M2 = M) := by
  refine ctI_of (L0 := [some (.ref (E.2.2 5)), none, none]) (by decide) rfl (Nat.le_of_ble_eq_true rfl) rfl ?_
  intro Z hl hE hnl F ret
  subst hE
  have kl := kd_Log
  have ke := kd_ents
  have lo : ∀ i, i ≤ 5 → JJ Z (0, 0) (M) 4 [some (.ref ((zE Z).2.2 5)), some (.int (nI (fb_sm (fun ow => fb_ct (fun j => decide (M.1 (7 + 3 * j) 1 = nI ow) && !decide (M.1 (7 + 3 * j) 6 = 0)) n) i))), some (.int (nI i))] [] := by
    refine jj_loop (5) ?_ ?_
    · refine jj_iload_n F dX2_activeOperations_4 rfl ?_
      refine jj_iconst F (v := nI 5) dX2_activeOperations_5 (by decide) ?_
      refine jj_icmp_ge F (tgt := 23) dX2_activeOperations_6 (by decide) (fun _ => ?_) (fun h9 => absurd (nI_le (by omega) (by omega)) h9)
      refine jj_iload_n F dX2_activeOperations_23 rfl ?_
      exact ret _ _ _ _ dX2_activeOperations_24 rfl ⟨rfl, rfl⟩
    · intro i hi ih
      refine jj_iload_n F dX2_activeOperations_4 rfl ?_
      refine jj_iconst F (v := nI 5) dX2_activeOperations_5 (by decide) ?_
      refine jj_icmp_ge F (tgt := 23) dX2_activeOperations_6 (by decide) (fun h9 => absurd h9 (nI_ge (by omega) (by omega))) (fun _ => ?_)
      refine jj_iload_n F dX2_activeOperations_9 rfl ?_
      refine jj_aload_n F dX2_activeOperations_10 rfl ?_
      refine jj_iload_n F dX2_activeOperations_11 rfl ?_
      refine jj_callVi (na := 1) F (c_X2_activeOf hn (by omega)) (gl_V mk_X2_60 vw_X2_activeOf) rfl rfl rfl (by decide +kernel) ⟨Nat.le_of_ble_eq_true rfl, Nat.le_of_ble_eq_true rfl⟩ (by assumption) rfl rfl rfl (Nat.le_of_ble_eq_true rfl) ⟨Nat.le_of_ble_eq_true rfl, Nat.le_of_ble_eq_true rfl⟩ dX2_activeOperations_12 (fun r12 M12 hp12 => ?_)
      obtain ⟨rfl, rfl⟩ := symm2 hp12
      refine jj_iadd F dX2_activeOperations_15 ?_
      refine jj_istore_n F dX2_activeOperations_16 (by rw [hnl]; decide) ?_
      dsimp only [lq_st, lq_clr, lq_no]
      refine jj_iinc F dX2_activeOperations_17 rfl (by first | exact iinc1 _ | rfl) (by rw [hnl]; decide) ?_
      dsimp only [lq_st, lq_clr, lq_no]
      refine jj_goto F (tgt := 4) dX2_activeOperations_20 (by decide) ?_
      rw [nI_add, ← fb_sm_succ (fun ow => fb_ct (fun j => decide (M.1 (7 + 3 * j) 1 = nI ow) && !decide (M.1 (7 + 3 * j) 6 = 0)) n)]
      exact ih
  refine jj_iconst F (v := nI 0) dX2_activeOperations_0 (by decide) ?_
  refine jj_istore_n F dX2_activeOperations_1 (by rw [hnl]; decide) ?_
  dsimp only [lq_st, lq_clr, lq_no]
  refine jj_iconst F (v := nI 0) dX2_activeOperations_2 (by decide) ?_
  refine jj_istore_n F dX2_activeOperations_3 (by rw [hnl]; decide) ?_
  dsimp only [lq_st, lq_clr, lq_no]
  exact lo 0 (by omega)
set_option maxRecDepth 100000 in
set_option maxHeartbeats 1000000 in
theorem c_X3_keep {l : Launch} {E : Ee} {M : Mm} {m n b : Nat} (hm : m < 6) (hs : isSc b) (hn : M.1 5 1 = nI n) (h60 : n ≤ 60) (hb : ∀ j, j < n → M.1 (7 + 3 * j) 6 = 0 ∨ M.1 (7 + 3 * j) 6 = 1) : CtV l E yX3_keep (.code yX3_keep cX3_keep 4 none :: gl) ({ frames := 0, cells := 0, slots := 0, locals := 0 } : Room) M [.ref (E.2.2 (460 + 3 * m)), .ref (E.2.2 5), .ref (E.2.2 b)] 0 0 (fun M2 => M2 = wA (wA (wA M (460 + 3 * m) (upd (upd (M.1 (460 + 3 * m)) 0 (nI 1)) 1 (nI n))) (460 + 3 * m + 1) (fl n (fun j => M.1 (7 + 3 * j) 6) (M.1 (460 + 3 * m + 1)))) (460 + 3 * m + 2) (M.1 (b + 3))) := by
  refine ctV_of (L0 := [some (.ref (E.2.2 (460 + 3 * m))), some (.ref (E.2.2 5)), some (.ref (E.2.2 b)), none]) (by decide) rfl (Nat.le_of_ble_eq_true rfl) rfl ?_
  intro Z hl hE hnl F ret
  subst hE
  have in_X2 : ∀ w ∈ u_ws RX2 TX2 3, w ∈ (.code yX3_keep cX3_keep 4 none :: gl) := fun w h => List.mem_cons_of_mem _ (lay_X2 w h)
  have in_X3 : ∀ w ∈ u_ws RX3 TX3 4, w ∈ (.code yX3_keep cX3_keep 4 none :: gl) := fun w h => List.mem_cons_of_mem _ (lay_X3 w h)
  have in_X4 : ∀ w ∈ u_ws RX4 TX4 9, w ∈ (.code yX3_keep cX3_keep 4 none :: gl) := fun w h => List.mem_cons_of_mem _ (lay_X4 w h)
  have in_X7 : ∀ w ∈ u_ws RX7 TX7 4, w ∈ (.code yX3_keep cX3_keep 4 none :: gl) := fun w h => List.mem_cons_of_mem _ (lay_X7 w h)
  have g15 : FG Z 15 3 1 := fg_mk F (C := RX3) (T := TX3) (N := 4) in_X3 rfl (by decide) rfl (List.mem_cons_of_mem _ fk_X3_15)
  have g19 : FG Z 19 3 2 := fg_mk F (C := RX3) (T := TX3) (N := 4) in_X3 rfl (by decide) rfl (List.mem_cons_of_mem _ fk_X3_19)
  have g23 : FG Z 23 3 3 := fg_mk F (C := RX3) (T := TX3) (N := 4) in_X3 rfl (by decide) rfl (List.mem_cons_of_mem _ fk_X3_23)
  have g27 : FG Z 27 2 1 := fg_mk F (C := RX2) (T := TX2) (N := 3) in_X2 rfl (by decide) rfl (List.mem_cons_of_mem _ fk_X3_27)
  have g30 : FG Z 30 2 0 := fg_mk F (C := RX2) (T := TX2) (N := 3) in_X2 rfl (by decide) rfl (List.mem_cons_of_mem _ fk_X3_30)
  have g34 : FG Z 34 4 6 := fg_mk F (C := RX4) (T := TX4) (N := 9) in_X4 rfl (by decide) rfl (List.mem_cons_of_mem _ fk_X3_34)
  have g38 : FG Z 38 7 2 := fg_mk F (C := RX7) (T := TX7) (N := 4) in_X7 rfl (by decide) rfl (List.mem_cons_of_mem _ fk_X3_38)
  have p9 : FP Z 9 3 0 .boolean := fp_mk F (C := RX3) (T := TX3) (N := 4) in_X3 tyX3_ok nmX3 rfl (by decide) rfl (List.mem_cons_of_mem _ fk_X3_9) rfl (by decide +kernel)
  have p15 : FP Z 15 3 1 .int := fp_mk F (C := RX3) (T := TX3) (N := 4) in_X3 tyX3_ok nmX3 rfl (by decide) rfl (List.mem_cons_of_mem _ fk_X3_15) rfl (by decide +kernel)
  have kl := kd_Log
  have ke := kd_ents
  have km := kd_mk0 m hm
  have km1 := kd_mk1 m hm
  have km2 := kd_mk2 m hm
  have kb := kd_sc0 hs
  have kb3 := kd_sc3 hs
  have hbb : b = 204 ∨ b = 329 := hs
  have lo2 : ∀ i, i ≤ 256 → JJ Z (0, 0) (wA (wA (wA M (460 + 3 * m) (upd (upd (M.1 (460 + 3 * m)) 0 (nI 1)) 1 (nI n))) (460 + 3 * m + 1) (fl n (fun j => M.1 (7 + 3 * j) 6) (M.1 (460 + 3 * m + 1)))) (460 + 3 * m + 2) (fl i (M.1 (b + 3)) (M.1 (460 + 3 * m + 2)))) 46 [some (.ref ((zE Z).2.2 (460 + 3 * m))), some (.ref ((zE Z).2.2 5)), some (.ref ((zE Z).2.2 b)), some (.int (nI i))] [] := by
    refine jj_loop (256) ?_ ?_
    · refine jj_iload_n F dX3_keep_46 rfl ?_
      refine jj_sipush F (v := nI 256) dX3_keep_47 (by decide) ?_
      refine jj_icmp_ge F (tgt := 71) dX3_keep_50 (by decide) (fun _ => ?_) (fun h9 => absurd (nI_le (by omega) (by omega)) h9)
      refine jj_eqv (meq_fl km2) ?_
      exact ret _ _ _ dX3_keep_71 rfl
    · intro i hi ih
      refine jj_iload_n F dX3_keep_46 rfl ?_
      refine jj_sipush F (v := nI 256) dX3_keep_47 (by decide) ?_
      refine jj_icmp_ge F (tgt := 71) dX3_keep_50 (by decide) (fun h9 => absurd h9 (nI_ge (by omega) (by omega))) (fun _ => ?_)
      refine jj_aload_n F dX3_keep_53 rfl ?_
      refine jj_getr F g23 (by assumption) (by rfl) dX3_keep_54 ?_
      refine jj_iload_n F dX3_keep_57 rfl ?_
      refine jj_aload_n F dX3_keep_58 rfl ?_
      refine jj_getr F g38 (by assumption) (by rfl) dX3_keep_59 ?_
      refine jj_iload_n F dX3_keep_62 rfl ?_
      refine jj_iald F (by assumption) rfl (by omega) dX3_keep_63 ?_
      refine jj_iast F (by assumption) rfl (by omega) dX3_keep_64 ?_
      refine jj_iinc F dX3_keep_65 rfl (by first | exact iinc1 _ | rfl) (by rw [hnl]; decide) ?_
      dsimp only [lq_st, lq_clr, lq_no]
      refine jj_goto F (tgt := 46) dX3_keep_68 (by decide) ?_
      rw [fl_put (by rw [wA_n (by omega), wA_n (by omega), wA_n (by omega)])]
      exact ih
  have lo : ∀ i, i ≤ n → JJ Z (0, 0) (wA (wA M (460 + 3 * m) (upd (upd (M.1 (460 + 3 * m)) 0 (nI 1)) 1 (nI n))) (460 + 3 * m + 1) (fl i (fun j => M.1 (7 + 3 * j) 6) (M.1 (460 + 3 * m + 1)))) 15 [some (.ref ((zE Z).2.2 (460 + 3 * m))), some (.ref ((zE Z).2.2 5)), some (.ref ((zE Z).2.2 b)), some (.int (nI i))] [] := by
    refine jj_loop (n) ?_ ?_
    · have es : ((wA (wA M (460 + 3 * m) (upd (upd (M.1 (460 + 3 * m)) 0 (nI 1)) 1 (nI n))) (460 + 3 * m + 1) (fl n (fun j => M.1 (7 + 3 * j) 6) (M.1 (460 + 3 * m + 1))))).1 (460 + 3 * m) 1 = nI n := by rw [wA_n (by omega), wA_s]; simp [upd]
      refine jj_iload_n F dX3_keep_15 rfl ?_
      refine jj_aload_n F dX3_keep_16 rfl ?_
      refine jj_geti F g15 (by assumption) (by rfl) dX3_keep_17 ?_
      rw [es]
      refine jj_icmp_ge F (tgt := 44) dX3_keep_20 (by decide) (fun _ => ?_) (fun h9 => absurd (nI_le (by omega) (by omega)) h9)
      refine jj_iconst F (v := nI 0) dX3_keep_44 (by decide) ?_
      refine jj_istore_n F dX3_keep_45 (by rw [hnl]; decide) ?_
      dsimp only [lq_st, lq_clr, lq_no]
      refine jj_eqM (?_ : _ = wA (wA (wA M (460 + 3 * m) (upd (upd (M.1 (460 + 3 * m)) 0 (nI 1)) 1 (nI n))) (460 + 3 * m + 1) (fl n (fun j => M.1 (7 + 3 * j) 6) (M.1 (460 + 3 * m + 1)))) (460 + 3 * m + 2) (fl 0 (M.1 (b + 3)) (M.1 (460 + 3 * m + 2)))) (lo2 0 (by omega))
      rw [fl_z]
      have e9 : ((wA (wA M (460 + 3 * m) (upd (upd (M.1 (460 + 3 * m)) 0 (nI 1)) 1 (nI n))) (460 + 3 * m + 1) (fl n (fun j => M.1 (7 + 3 * j) 6) (M.1 (460 + 3 * m + 1))))).1 (460 + 3 * m + 2) = M.1 (460 + 3 * m + 2) := by rw [wA_n (by omega), wA_n (by omega)]
      rw [← e9, wA_same]
    · intro i hi ih
      have ko := kd_op i (by omega)
      have ea : (wA (wA M (460 + 3 * m) (upd (upd (M.1 (460 + 3 * m)) 0 (nI 1)) 1 (nI n))) (460 + 3 * m + 1) (fl i (fun j => M.1 (7 + 3 * j) 6) (M.1 (460 + 3 * m + 1)))).1 (7 + 3 * i) 6 = M.1 (7 + 3 * i) 6 := by rw [wA_n (by omega), wA_n (by omega)]
      have es : (wA (wA M (460 + 3 * m) (upd (upd (M.1 (460 + 3 * m)) 0 (nI 1)) 1 (nI n))) (460 + 3 * m + 1) (fl i (fun j => M.1 (7 + 3 * j) 6) (M.1 (460 + 3 * m + 1)))).1 (460 + 3 * m) 1 = nI n := by rw [wA_n (by omega), wA_s]; simp [upd]
      have hbi := hb i (by omega)
      refine jj_iload_n F dX3_keep_15 rfl ?_
      refine jj_aload_n F dX3_keep_16 rfl ?_
      refine jj_geti F g15 (by assumption) (by rfl) dX3_keep_17 ?_
      rw [es]
      refine jj_icmp_ge F (tgt := 44) dX3_keep_20 (by decide) (fun h9 => absurd h9 (nI_ge (by omega) (by omega))) (fun _ => ?_)
      refine jj_aload_n F dX3_keep_23 rfl ?_
      refine jj_getr F g19 (by assumption) (by rfl) dX3_keep_24 ?_
      refine jj_iload_n F dX3_keep_27 rfl ?_
      refine jj_aload_n F dX3_keep_28 rfl ?_
      refine jj_getr F g30 (by assumption) (by rfl) dX3_keep_29 ?_
      refine jj_iload_n F dX3_keep_32 rfl ?_
      refine jj_aald F (by assumption) rfl (by omega) dX3_keep_33 ?_
      refine jj_geti F g34 (by assumption) (by rfl) dX3_keep_34 ?_
      rw [ea]
      refine jj_zast F (by assumption) rfl (by omega) (by first | exact Or.inl rfl | exact Or.inr rfl | assumption) dX3_keep_37 ?_
      refine jj_iinc F dX3_keep_38 rfl (by first | exact iinc1 _ | rfl) (by rw [hnl]; decide) ?_
      dsimp only [lq_st, lq_clr, lq_no]
      refine jj_goto F (tgt := 15) dX3_keep_41 (by decide) ?_
      rw [fl_put rfl]
      exact ih
  refine jj_aload_n F dX3_keep_0 rfl ?_
  refine jj_iconst F (v := nI 1) dX3_keep_1 (by decide) ?_
  refine jj_putz F p9 (by assumption) (by rfl) (by first | exact Or.inl rfl | exact Or.inr rfl | assumption) dX3_keep_2 ?_
  refine jj_aload_n F dX3_keep_5 rfl ?_
  refine jj_aload_n F dX3_keep_6 rfl ?_
  refine jj_geti F g27 (by assumption) (by rfl) dX3_keep_7 ?_
  rw [wA_n (by omega), hn]
  refine jj_puti F p15 (by assumption) (by rfl) dX3_keep_10 ?_
  refine jj_iconst F (v := nI 0) dX3_keep_13 (by decide) ?_
  refine jj_istore_n F dX3_keep_14 (by rw [hnl]; decide) ?_
  dsimp only [lq_st, lq_clr, lq_no]
  refine jj_eqM ?_ (lo 0 (by omega))
  rw [fl_z, wA_s, wA_wA]
  have e9 : ((wA M (460 + 3 * m) (upd (upd (M.1 (460 + 3 * m)) 0 (nI 1)) 1 (nI n)))).1 (460 + 3 * m + 1) = M.1 (460 + 3 * m + 1) := by rw [wA_n (by omega)]
  rw [← e9, wA_same]
