theorem isop_n {x : Int32} {n : Nat} (hn : n ≤ 60) (h : wiB x (nI 0) (nI n - nI 1) = false) : (decide (0 ≤ x) && decide (x < nI n)) = false := by
  cases hh : (decide (0 ≤ x) && decide (x < nI n)) with
  | false => rfl
  | true =>
    rw [Bool.and_eq_true, decide_eq_true_eq, decide_eq_true_eq] at hh
    obtain ⟨k, hk, rfl⟩ := i32_ix (n := n) (x := x) (i32_le_nlt hh.1) (i32_lt_nle hh.2) (by omega)
    rw [isop_k hk hn] at h
    cases h
set_option maxRecDepth 100000 in
set_option maxHeartbeats 1000000 in
theorem t_refuseWrongUser_x {l : Launch} {E : Ee} {M : Mm} {x : Int32} (hw : wiB x (nI 0) (nI 4) = false) (hst : l.stackTraces = false) : CtT l E yX8_refuseWrongUser (.code yX8_refuseWrongUser cX8_refuseWrongUser 1 none :: gl) ({ frames := 6, cells := 1, slots := 6, locals := 100 } : Room) M [.int x] eIX (fun M2 => M2 = M) := by
  refine ctT_of (L0 := [some (.int x)]) hst (by decide) rfl (Nat.le_of_ble_eq_true rfl) rfl ?_
  intro Z hl hE hnl F X
  subst hE
  refine jj_iload_n F dX8_refuseWrongUser_0 rfl ?_
  refine jj_if_lt F (tgt := 9) dX8_refuseWrongUser_1 (by decide) (fun h1 => ?_) (fun h1 => ?_)
  · exact jj_throwSW F X (ik := 280) (is := 282) (ic := 284) (text := "the user does not exist") (by decide +kernel) xk_IX xi_IX xa_IX (by decide +kernel) dX8_refuseWrongUser_9 dX8_refuseWrongUser_12 dX8_refuseWrongUser_13 dX8_refuseWrongUser_16 dX8_refuseWrongUser_19 (Nat.le_of_ble_eq_true rfl) (Nat.le_of_ble_eq_true rfl) (Nat.le_of_ble_eq_true rfl) (Nat.le_of_ble_eq_true rfl) rfl
  · refine jj_iload_n F dX8_refuseWrongUser_4 rfl ?_
    refine jj_iconst F (v := nI 5) dX8_refuseWrongUser_5 (by decide) ?_
    refine jj_icmp_lt F (tgt := 20) dX8_refuseWrongUser_6 (by decide) (fun h9 => absurd h9 (wi_nlt hw h1 (by omega))) (fun _ => ?_)
    exact jj_throwSW F X (ik := 280) (is := 282) (ic := 284) (text := "the user does not exist") (by decide +kernel) xk_IX xi_IX xa_IX (by decide +kernel) dX8_refuseWrongUser_9 dX8_refuseWrongUser_12 dX8_refuseWrongUser_13 dX8_refuseWrongUser_16 dX8_refuseWrongUser_19 (Nat.le_of_ble_eq_true rfl) (Nat.le_of_ble_eq_true rfl) (Nat.le_of_ble_eq_true rfl) (Nat.le_of_ble_eq_true rfl) rfl
set_option maxRecDepth 100000 in
set_option maxHeartbeats 1000000 in
theorem t_refuseWrongLayer_x {l : Launch} {E : Ee} {M : Mm} {x : Int32} (hw : wiB x (nI 0) (nI 2) = false) (hst : l.stackTraces = false) : CtT l E yX8_refuseWrongLayer (.code yX8_refuseWrongLayer cX8_refuseWrongLayer 1 none :: gl) ({ frames := 6, cells := 1, slots := 6, locals := 100 } : Room) M [.int x] eIX (fun M2 => M2 = M) := by
  refine ctT_of (L0 := [some (.int x)]) hst (by decide) rfl (Nat.le_of_ble_eq_true rfl) rfl ?_
  intro Z hl hE hnl F X
  subst hE
  refine jj_iload_n F dX8_refuseWrongLayer_0 rfl ?_
  refine jj_if_lt F (tgt := 9) dX8_refuseWrongLayer_1 (by decide) (fun h1 => ?_) (fun h1 => ?_)
  · exact jj_throwSW F X (ik := 280) (is := 285) (ic := 284) (text := "the layer does not exist") (by decide +kernel) xk_IX xi_IX xa_IX (by decide +kernel) dX8_refuseWrongLayer_9 dX8_refuseWrongLayer_12 dX8_refuseWrongLayer_13 dX8_refuseWrongLayer_16 dX8_refuseWrongLayer_19 (Nat.le_of_ble_eq_true rfl) (Nat.le_of_ble_eq_true rfl) (Nat.le_of_ble_eq_true rfl) (Nat.le_of_ble_eq_true rfl) rfl
  · refine jj_iload_n F dX8_refuseWrongLayer_4 rfl ?_
    refine jj_iconst F (v := nI 3) dX8_refuseWrongLayer_5 (by decide) ?_
    refine jj_icmp_lt F (tgt := 20) dX8_refuseWrongLayer_6 (by decide) (fun h9 => absurd h9 (wi_nlt hw h1 (by omega))) (fun _ => ?_)
    exact jj_throwSW F X (ik := 280) (is := 285) (ic := 284) (text := "the layer does not exist") (by decide +kernel) xk_IX xi_IX xa_IX (by decide +kernel) dX8_refuseWrongLayer_9 dX8_refuseWrongLayer_12 dX8_refuseWrongLayer_13 dX8_refuseWrongLayer_16 dX8_refuseWrongLayer_19 (Nat.le_of_ble_eq_true rfl) (Nat.le_of_ble_eq_true rfl) (Nat.le_of_ble_eq_true rfl) (Nat.le_of_ble_eq_true rfl) rfl
set_option maxRecDepth 100000 in
set_option maxHeartbeats 1000000 in
theorem t_refuseWrongCell_x {l : Launch} {E : Ee} {M : Mm} {x : Int32} (hw : wiB x (nI 0) (nI 255) = false) (hst : l.stackTraces = false) : CtT l E yX8_refuseWrongCell (.code yX8_refuseWrongCell cX8_refuseWrongCell 1 none :: gl) ({ frames := 6, cells := 1, slots := 6, locals := 100 } : Room) M [.int x] eIX (fun M2 => M2 = M) := by
  refine ctT_of (L0 := [some (.int x)]) hst (by decide) rfl (Nat.le_of_ble_eq_true rfl) rfl ?_
  intro Z hl hE hnl F X
  subst hE
  refine jj_iload_n F dX8_refuseWrongCell_0 rfl ?_
  refine jj_if_lt F (tgt := 11) dX8_refuseWrongCell_1 (by decide) (fun h1 => ?_) (fun h1 => ?_)
  · exact jj_throwSW F X (ik := 280) (is := 287) (ic := 284) (text := "the cell does not exist") (by decide +kernel) xk_IX xi_IX xa_IX (by decide +kernel) dX8_refuseWrongCell_11 dX8_refuseWrongCell_14 dX8_refuseWrongCell_15 dX8_refuseWrongCell_18 dX8_refuseWrongCell_21 (Nat.le_of_ble_eq_true rfl) (Nat.le_of_ble_eq_true rfl) (Nat.le_of_ble_eq_true rfl) (Nat.le_of_ble_eq_true rfl) rfl
  · refine jj_iload_n F dX8_refuseWrongCell_4 rfl ?_
    refine jj_sipush F (v := nI 256) dX8_refuseWrongCell_5 (by decide) ?_
    refine jj_icmp_lt F (tgt := 22) dX8_refuseWrongCell_8 (by decide) (fun h9 => absurd h9 (wi_nlt hw h1 (by omega))) (fun _ => ?_)
    exact jj_throwSW F X (ik := 280) (is := 287) (ic := 284) (text := "the cell does not exist") (by decide +kernel) xk_IX xi_IX xa_IX (by decide +kernel) dX8_refuseWrongCell_11 dX8_refuseWrongCell_14 dX8_refuseWrongCell_15 dX8_refuseWrongCell_18 dX8_refuseWrongCell_21 (Nat.le_of_ble_eq_true rfl) (Nat.le_of_ble_eq_true rfl) (Nat.le_of_ble_eq_true rfl) (Nat.le_of_ble_eq_true rfl) rfl
set_option maxRecDepth 100000 in
set_option maxHeartbeats 1000000 in
theorem t_refuseWrongMark_x {l : Launch} {E : Ee} {M : Mm} {x : Int32} (hw : wiB x (nI 0) (nI 5) = false) (hst : l.stackTraces = false) : CtT l E yX8_refuseWrongMark (.code yX8_refuseWrongMark cX8_refuseWrongMark 1 none :: gl) ({ frames := 6, cells := 1, slots := 6, locals := 100 } : Room) M [.int x] eIX (fun M2 => M2 = M) := by
  refine ctT_of (L0 := [some (.int x)]) hst (by decide) rfl (Nat.le_of_ble_eq_true rfl) rfl ?_
  intro Z hl hE hnl F X
  subst hE
  refine jj_iload_n F dX8_refuseWrongMark_0 rfl ?_
  refine jj_if_lt F (tgt := 10) dX8_refuseWrongMark_1 (by decide) (fun h1 => ?_) (fun h1 => ?_)
  · exact jj_throwSW F X (ik := 280) (is := 289) (ic := 284) (text := "mark is not 0 to 5") (by decide +kernel) xk_IX xi_IX xa_IX (by decide +kernel) dX8_refuseWrongMark_10 dX8_refuseWrongMark_13 dX8_refuseWrongMark_14 dX8_refuseWrongMark_17 dX8_refuseWrongMark_20 (Nat.le_of_ble_eq_true rfl) (Nat.le_of_ble_eq_true rfl) (Nat.le_of_ble_eq_true rfl) (Nat.le_of_ble_eq_true rfl) rfl
  · refine jj_iload_n F dX8_refuseWrongMark_4 rfl ?_
    refine jj_bipush F (v := nI 6) dX8_refuseWrongMark_5 (by decide) ?_
    refine jj_icmp_lt F (tgt := 21) dX8_refuseWrongMark_7 (by decide) (fun h9 => absurd h9 (wi_nlt hw h1 (by omega))) (fun _ => ?_)
    exact jj_throwSW F X (ik := 280) (is := 289) (ic := 284) (text := "mark is not 0 to 5") (by decide +kernel) xk_IX xi_IX xa_IX (by decide +kernel) dX8_refuseWrongMark_10 dX8_refuseWrongMark_13 dX8_refuseWrongMark_14 dX8_refuseWrongMark_17 dX8_refuseWrongMark_20 (Nat.le_of_ble_eq_true rfl) (Nat.le_of_ble_eq_true rfl) (Nat.le_of_ble_eq_true rfl) (Nat.le_of_ble_eq_true rfl) rfl
set_option maxRecDepth 100000 in
set_option maxHeartbeats 1000000 in
theorem t_refuseWrongColor_x {l : Launch} {E : Ee} {M : Mm} {x : Int32} (hw : wiB x (nI 1) (nI 9) = false) (hst : l.stackTraces = false) : CtT l E yX8_refuseWrongColor (.code yX8_refuseWrongColor cX8_refuseWrongColor 1 none :: gl) ({ frames := 6, cells := 1, slots := 6, locals := 100 } : Room) M [.int x] eIA (fun M2 => M2 = M) := by
  refine ctT_of (L0 := [some (.int x)]) hst (by decide) rfl (Nat.le_of_ble_eq_true rfl) rfl ?_
  intro Z hl hE hnl F X
  subst hE
  refine jj_iload_n F dX8_refuseWrongColor_0 rfl ?_
  refine jj_iconst F (v := nI 1) dX8_refuseWrongColor_1 (by decide) ?_
  refine jj_icmp_lt F (tgt := 11) dX8_refuseWrongColor_2 (by decide) (fun h2 => ?_) (fun h2 => ?_)
  · exact jj_throwSW F X (ik := 78) (is := 293) (ic := 82) (text := "color is not 1 to 9") (by decide +kernel) xk_IA xi_IA xa_IA (by decide +kernel) dX8_refuseWrongColor_11 dX8_refuseWrongColor_14 dX8_refuseWrongColor_15 dX8_refuseWrongColor_18 dX8_refuseWrongColor_21 (Nat.le_of_ble_eq_true rfl) (Nat.le_of_ble_eq_true rfl) (Nat.le_of_ble_eq_true rfl) (Nat.le_of_ble_eq_true rfl) rfl
  · refine jj_iload_n F dX8_refuseWrongColor_5 rfl ?_
    refine jj_bipush F (v := nI 9) dX8_refuseWrongColor_6 (by decide) ?_
    refine jj_icmp_le F (tgt := 22) dX8_refuseWrongColor_8 (by decide) (fun h9 => absurd h9 (wi_nle hw h2)) (fun _ => ?_)
    exact jj_throwSW F X (ik := 78) (is := 293) (ic := 82) (text := "color is not 1 to 9") (by decide +kernel) xk_IA xi_IA xa_IA (by decide +kernel) dX8_refuseWrongColor_11 dX8_refuseWrongColor_14 dX8_refuseWrongColor_15 dX8_refuseWrongColor_18 dX8_refuseWrongColor_21 (Nat.le_of_ble_eq_true rfl) (Nat.le_of_ble_eq_true rfl) (Nat.le_of_ble_eq_true rfl) (Nat.le_of_ble_eq_true rfl) rfl
set_option maxRecDepth 100000 in
set_option maxHeartbeats 1000000 in
theorem t_refuseWrongOperation_x {l : Launch} {E : Ee} {M : Mm} {a : Ab} {W : Nat} (hB : RelB M a W) {x : Int32} (hw : wiB x (nI 0) (nI (a_n a) - nI 1) = false) (hst : l.stackTraces = false) : CtT l E yX8_refuseWrongOperation (.code yX8_refuseWrongOperation cX8_refuseWrongOperation 2 none :: gl) ({ frames := 6, cells := 1, slots := 6, locals := 100 } : Room) M [.ref (E.2.2 0), .int x] eIX (fun M2 => M2 = M) := by
  refine ctT_of (L0 := [some (.ref (E.2.2 0)), some (.int x)]) hst (by decide) rfl (Nat.le_of_ble_eq_true rfl) rfl ?_
  intro Z hl hE hnl F X
  subst hE
  have in_X8 : ∀ w ∈ u_ws RX8 TX8 9, w ∈ (.code yX8_refuseWrongOperation cX8_refuseWrongOperation 2 none :: gl) := fun w h => List.mem_cons_of_mem _ (lay_X8 w h)
  have g19 : FG Z 19 8 1 := fg_mk F (C := RX8) (T := TX8) (N := 9) in_X8 rfl (by decide) rfl (List.mem_cons_of_mem _ fk_X8_19)
  obtain ⟨hO, hL, hU, hK, hS, hT, hR0⟩ := id hB
  obtain ⟨h60, ht, htk, hn, hop, hac, hopk, Cb, hC, hCb⟩ := id hO
  obtain ⟨own, en, fa, la, l1, hA, hp⟩ := id hL
  obtain ⟨s1, s2, s3, s4⟩ := id hS
  obtain ⟨S0, hS0⟩ := id hR0.1
  obtain ⟨R, Q, q, hR, hQ, hq, hok⟩ := id hR0.2
  have kb := kd_B
  have kl := kd_Log
  have ke := kd_ents
  have ks := kd_sc0 sc204
  have ks1 := kd_sc1 sc204
  have ks2 := kd_sc2 sc204
  have ks3 := kd_sc3 sc204
  have ks4 := kd_sc4 sc204
  have kt := kd_sc0 sc329
  have kt3 := kd_sc3 sc329
  have kp := kd_PT
  have kL := kd_Ls
  have cs8 := cs_scr
  have k58 := kd_458
  have k59 := kd_459
  have kr := kd_Reg
  have km := kd_marks
  have kc := kd_codes
  have k3 := kd_cols
  have k4 := kd_prows
  have kar := kd_areas
  have kow := kd_owners
  have ken := kd_ends
  have kq := kd_queue
  have kt1 := kd_sc1 sc329
  have kt2 := kd_sc2 sc329
  refine jj_aload_n F dX8_refuseWrongOperation_0 rfl ?_
  refine jj_getr F g19 (by assumption) (by rfl) dX8_refuseWrongOperation_1 ?_
  refine jj_iload_n F dX8_refuseWrongOperation_4 rfl ?_
  refine jj_callVi (na := 1) F (c_X2_contains (x := x)) (gl_V mk_X8_171 vw_X2_contains) rfl rfl rfl (by decide +kernel) ⟨Nat.le_of_ble_eq_true rfl, Nat.le_of_ble_eq_true rfl⟩ (by assumption) rfl rfl rfl (Nat.le_of_ble_eq_true rfl) ⟨Nat.le_of_ble_eq_true rfl, Nat.le_of_ble_eq_true rfl⟩ dX8_refuseWrongOperation_5 (fun r5 M5 hp5 => ?_)
  obtain ⟨rfl, rfl⟩ := symm2 hp5
  refine jj_if_ne F (tgt := 22) dX8_refuseWrongOperation_8 (by decide) (fun h9 => absurd h9 (fun z => z (by rw [hn, isop_n h60 hw]; rfl))) (fun _ => ?_)
  exact jj_throwSW F X (ik := 280) (is := 291) (ic := 284) (text := "the operation does not exist") (by decide +kernel) xk_IX xi_IX xa_IX (by decide +kernel) dX8_refuseWrongOperation_11 dX8_refuseWrongOperation_14 dX8_refuseWrongOperation_15 dX8_refuseWrongOperation_18 dX8_refuseWrongOperation_21 (Nat.le_of_ble_eq_true rfl) (Nat.le_of_ble_eq_true rfl) (Nat.le_of_ble_eq_true rfl) (Nat.le_of_ble_eq_true rfl) rfl
set_option maxRecDepth 100000 in
set_option maxHeartbeats 1000000 in
theorem t_refuseWrongPath_x {l : Launch} {E : Ee} {M : Mm} {a : Ab} {W : Nat} (hB : RelB M a W) (hok9 : okP a = false) (hst : l.stackTraces = false) : CtT l E yX8_refuseWrongPath (.code yX8_refuseWrongPath cX8_refuseWrongPath 1 none :: gl) ({ frames := 6, cells := 1, slots := 6, locals := 100 } : Room) M [.ref (E.2.2 0)] eIS (fun M2 => RelB M2 a W) := by
  refine ctT_of (L0 := [some (.ref (E.2.2 0))]) hst (by decide) rfl (Nat.le_of_ble_eq_true rfl) rfl ?_
  intro Z hl hE hnl F X
  subst hE
  have in_X8 : ∀ w ∈ u_ws RX8 TX8 9, w ∈ (.code yX8_refuseWrongPath cX8_refuseWrongPath 1 none :: gl) := fun w h => List.mem_cons_of_mem _ (lay_X8 w h)
  have g10 : FG Z 10 8 0 := fg_mk F (C := RX8) (T := TX8) (N := 9) in_X8 rfl (by decide) rfl (List.mem_cons_of_mem _ fk_X8_10)
  obtain ⟨hO, hL, hU, hK, hS, hT, hR0⟩ := id hB
  obtain ⟨h60, ht, htk, hn, hop, hac, hopk, Cb, hC, hCb⟩ := id hO
  obtain ⟨own, en, fa, la, l1, hA, hp⟩ := id hL
  obtain ⟨s1, s2, s3, s4⟩ := id hS
  obtain ⟨S0, hS0⟩ := id hR0.1
  obtain ⟨R, Q, q, hR, hQ, hq, hok⟩ := id hR0.2
  obtain ⟨ht1, ht40, ht3, vals, hv3, hv4, hvs, hgg⟩ := id hT
  obtain ⟨rd1, rd2, rd3⟩ := rd_path (a := a) (v := vals) (fun j hj => ht3 j hj)
  have kb := kd_B
  have kl := kd_Log
  have ke := kd_ents
  have ks := kd_sc0 sc204
  have ks1 := kd_sc1 sc204
  have ks2 := kd_sc2 sc204
  have ks3 := kd_sc3 sc204
  have ks4 := kd_sc4 sc204
  have kt := kd_sc0 sc329
  have kt3 := kd_sc3 sc329
  have kp := kd_PT
  have kL := kd_Ls
  have cs8 := cs_scr
  have k58 := kd_458
  have k59 := kd_459
  have kr := kd_Reg
  have km := kd_marks
  have kc := kd_codes
  have k3 := kd_cols
  have k4 := kd_prows
  have kar := kd_areas
  have kow := kd_owners
  have ken := kd_ends
  have kq := kd_queue
  have kt1 := kd_sc1 sc329
  have kt2 := kd_sc2 sc329
  refine jj_aload_n F dX8_refuseWrongPath_0 rfl ?_
  refine jj_getr F g10 (by assumption) (by rfl) dX8_refuseWrongPath_1 ?_
  refine jj_callVi (na := 0) F (c_X5_isPath (len := a_ln a) (vals := vals) ht1 ht40 hv3 hv4 hvs) (gl_V mk_X8_295 vw_X5_isPath) rfl rfl rfl (by decide +kernel) ⟨Nat.le_of_ble_eq_true rfl, Nat.le_of_ble_eq_true rfl⟩ (by assumption) rfl rfl rfl (Nat.le_of_ble_eq_true rfl) ⟨Nat.le_of_ble_eq_true rfl, Nat.le_of_ble_eq_true rfl⟩ dX8_refuseWrongPath_4 (fun r4 M4 hp4 => ?_)
  obtain ⟨rfl, rfl⟩ := symm2 hp4
  refine jj_if_ne F (tgt := 21) dX8_refuseWrongPath_7 (by decide) (fun h9 => absurd h9 (fun z => z (by rw [rd2, hok9]; rfl))) (fun _ => ?_)
  exact jj_throwSW F X (ik := 86) (is := 299) (ic := 90) (text := "the buffer is not the complete text of a path") (by decide +kernel) xk_IS xi_IS xa_IS (by decide +kernel) dX8_refuseWrongPath_10 dX8_refuseWrongPath_13 dX8_refuseWrongPath_14 dX8_refuseWrongPath_17 dX8_refuseWrongPath_20 (Nat.le_of_ble_eq_true rfl) (Nat.le_of_ble_eq_true rfl) (Nat.le_of_ble_eq_true rfl) (Nat.le_of_ble_eq_true rfl) (RelB_pt hB (pok_rd (pok_0 hvs)))
set_option maxRecDepth 100000 in
set_option maxHeartbeats 1000000 in
theorem t_refuseFullLog_x {l : Launch} {E : Ee} {M : Mm} {n : Nat} (hn9 : M.1 5 1 = nI n) (h60n : n = 60) (hst : l.stackTraces = false) : CtT l E yX8_refuseFullLog (.code yX8_refuseFullLog cX8_refuseFullLog 1 none :: gl) ({ frames := 6, cells := 1, slots := 6, locals := 100 } : Room) M [.ref (E.2.2 0)] eIS (fun M2 => M2 = M) := by
  refine ctT_of (L0 := [some (.ref (E.2.2 0))]) hst (by decide) rfl (Nat.le_of_ble_eq_true rfl) rfl ?_
  intro Z hl hE hnl F X
  subst hE
  have in_X2 : ∀ w ∈ u_ws RX2 TX2 3, w ∈ (.code yX8_refuseFullLog cX8_refuseFullLog 1 none :: gl) := fun w h => List.mem_cons_of_mem _ (lay_X2 w h)
  have in_X8 : ∀ w ∈ u_ws RX8 TX8 9, w ∈ (.code yX8_refuseFullLog cX8_refuseFullLog 1 none :: gl) := fun w h => List.mem_cons_of_mem _ (lay_X8 w h)
  have g19 : FG Z 19 8 1 := fg_mk F (C := RX8) (T := TX8) (N := 9) in_X8 rfl (by decide) rfl (List.mem_cons_of_mem _ fk_X8_19)
  have g65 : FG Z 65 2 1 := fg_mk F (C := RX2) (T := TX2) (N := 3) in_X2 rfl (by decide) rfl (List.mem_cons_of_mem _ fk_X8_65)
  have kb := kd_B
  have kl := kd_Log
  have ke := kd_ents
  have ks := kd_sc0 sc204
  have ks1 := kd_sc1 sc204
  have ks2 := kd_sc2 sc204
  have ks3 := kd_sc3 sc204
  have ks4 := kd_sc4 sc204
  have kt := kd_sc0 sc329
  have kt3 := kd_sc3 sc329
  have kp := kd_PT
  have kL := kd_Ls
  have cs8 := cs_scr
  have k58 := kd_458
  have k59 := kd_459
  have kr := kd_Reg
  have km := kd_marks
  have kc := kd_codes
  have k3 := kd_cols
  have k4 := kd_prows
  have kar := kd_areas
  have kow := kd_owners
  have ken := kd_ends
  have kq := kd_queue
  have kt1 := kd_sc1 sc329
  have kt2 := kd_sc2 sc329
  refine jj_aload_n F dX8_refuseFullLog_0 rfl ?_
  refine jj_getr F g19 (by assumption) (by rfl) dX8_refuseFullLog_1 ?_
  refine jj_geti F g65 (by assumption) (by rfl) dX8_refuseFullLog_4 ?_
  refine jj_bipush F (v := nI 60) dX8_refuseFullLog_7 (by decide) ?_
  refine jj_icmp_lt F (tgt := 23) dX8_refuseFullLog_9 (by decide) (fun h9 => absurd h9 (by rw [hn9, h60n]; decide)) (fun _ => ?_)
  exact jj_throwSW F X (ik := 86) (is := 301) (ic := 90) (text := "there are 60 operations") (by decide +kernel) xk_IS xi_IS xa_IS (by decide +kernel) dX8_refuseFullLog_12 dX8_refuseFullLog_15 dX8_refuseFullLog_16 dX8_refuseFullLog_19 dX8_refuseFullLog_22 (Nat.le_of_ble_eq_true rfl) (Nat.le_of_ble_eq_true rfl) (Nat.le_of_ble_eq_true rfl) (Nat.le_of_ble_eq_true rfl) rfl
set_option maxRecDepth 100000 in
set_option maxHeartbeats 1000000 in
theorem t_refuseUnsetMark_x {l : Launch} {E : Ee} {M : Mm} {a : Ab} {W : Nat} (hB : RelB M a W) {m : Nat} (hm : m < 6) (hs9 : (a_mk a m).1 = false) (hst : l.stackTraces = false) : CtT l E yX8_refuseUnsetMark (.code yX8_refuseUnsetMark cX8_refuseUnsetMark 2 none :: gl) ({ frames := 6, cells := 1, slots := 6, locals := 100 } : Room) M [.ref (E.2.2 0), .int (nI m)] eIS (fun M2 => M2 = M) := by
  refine ctT_of (L0 := [some (.ref (E.2.2 0)), some (.int (nI m))]) hst (by decide) rfl (Nat.le_of_ble_eq_true rfl) rfl ?_
  intro Z hl hE hnl F X
  subst hE
  have in_X3 : ∀ w ∈ u_ws RX3 TX3 4, w ∈ (.code yX8_refuseUnsetMark cX8_refuseUnsetMark 2 none :: gl) := fun w h => List.mem_cons_of_mem _ (lay_X3 w h)
  have in_X8 : ∀ w ∈ u_ws RX8 TX8 9, w ∈ (.code yX8_refuseUnsetMark cX8_refuseUnsetMark 2 none :: gl) := fun w h => List.mem_cons_of_mem _ (lay_X8 w h)
  have g32 : FG Z 32 8 3 := fg_mk F (C := RX8) (T := TX8) (N := 9) in_X8 rfl (by decide) rfl (List.mem_cons_of_mem _ fk_X8_32)
  have g71 : FG Z 71 3 0 := fg_mk F (C := RX3) (T := TX3) (N := 4) in_X3 rfl (by decide) rfl (List.mem_cons_of_mem _ fk_X8_71)
  obtain ⟨hO, hL, hU, hK, hS, hT, hR0⟩ := id hB
  obtain ⟨h60, ht, htk, hn, hop, hac, hopk, Cb, hC, hCb⟩ := id hO
  obtain ⟨own, en, fa, la, l1, hA, hp⟩ := id hL
  obtain ⟨s1, s2, s3, s4⟩ := id hS
  obtain ⟨S0, hS0⟩ := id hR0.1
  obtain ⟨R, Q, q, hR, hQ, hq, hok⟩ := id hR0.2
  have kb := kd_B
  have kl := kd_Log
  have ke := kd_ents
  have ks := kd_sc0 sc204
  have ks1 := kd_sc1 sc204
  have ks2 := kd_sc2 sc204
  have ks3 := kd_sc3 sc204
  have ks4 := kd_sc4 sc204
  have kt := kd_sc0 sc329
  have kt3 := kd_sc3 sc329
  have kp := kd_PT
  have kL := kd_Ls
  have cs8 := cs_scr
  have k58 := kd_458
  have k59 := kd_459
  have kr := kd_Reg
  have km := kd_marks
  have kc := kd_codes
  have k3 := kd_cols
  have k4 := kd_prows
  have kar := kd_areas
  have kow := kd_owners
  have ken := kd_ends
  have kq := kd_queue
  have kt1 := kd_sc1 sc329
  have kt2 := kd_sc2 sc329
  have km0 := kd_mk0 m hm
  refine jj_aload_n F dX8_refuseUnsetMark_0 rfl ?_
  refine jj_getr F g32 (by assumption) (by rfl) dX8_refuseUnsetMark_1 ?_
  refine jj_iload_n F dX8_refuseUnsetMark_4 rfl ?_
  refine jj_aald F (by assumption) rfl (by omega) dX8_refuseUnsetMark_5 ?_
  refine jj_geti F g71 (by assumption) (by rfl) dX8_refuseUnsetMark_6 ?_
  refine jj_if_ne F (tgt := 23) dX8_refuseUnsetMark_9 (by decide) (fun h9 => absurd h9 (fun z => z (by rw [(hK m hm).1, hs9]; rfl))) (fun _ => ?_)
  exact jj_throwSW F X (ik := 86) (is := 303) (ic := 90) (text := "the mark is not set") (by decide +kernel) xk_IS xi_IS xa_IS (by decide +kernel) dX8_refuseUnsetMark_12 dX8_refuseUnsetMark_15 dX8_refuseUnsetMark_16 dX8_refuseUnsetMark_19 dX8_refuseUnsetMark_22 (Nat.le_of_ble_eq_true rfl) (Nat.le_of_ble_eq_true rfl) (Nat.le_of_ble_eq_true rfl) (Nat.le_of_ble_eq_true rfl) rfl
set_option maxRecDepth 100000 in
set_option maxHeartbeats 1000000 in
theorem t_pass_1 {l : Launch} {E : Ee} {M : Mm} {a : Ab} {W : Nat} (hB : RelB M a W) {x : Int32} (hw : wiB x (nI 1) (nI 1000) = false) (hst : l.stackTraces = false) : CtT l E yX8_pass (.code yX8_pass cX8_pass 2 (some .int) :: gl) ({ frames := 7, cells := 1, slots := 6, locals := 130 } : Room) M [.ref (E.2.2 0), .int x] eIA (fun M2 => RelB M2 a W) := by
  refine ctT_of (L0 := [some (.ref (E.2.2 0)), some (.int x)]) hst (by decide) rfl (Nat.le_of_ble_eq_true rfl) rfl ?_
  intro Z hl hE hnl F X
  subst hE
  have in_X8 : ∀ w ∈ u_ws RX8 TX8 9, w ∈ (.code yX8_pass cX8_pass 2 (some .int) :: gl) := fun w h => List.mem_cons_of_mem _ (lay_X8 w h)
  have g60 : FG Z 60 8 8 := fg_mk F (C := RX8) (T := TX8) (N := 9) in_X8 rfl (by decide) rfl (List.mem_cons_of_mem _ fk_X8_60)
  have p60 : FP Z 60 8 8 .int := fp_mk F (C := RX8) (T := TX8) (N := 9) in_X8 tyX8_ok nmX8 rfl (by decide) rfl (List.mem_cons_of_mem _ fk_X8_60) rfl (by decide +kernel)
  obtain ⟨hO, hL, hU, hK, hS, hT, hR0⟩ := id hB
  obtain ⟨h60, ht, htk, hn, hop, hac, hopk, Cb, hC, hCb⟩ := id hO
  obtain ⟨own, en, fa, la, l1, hA, hp⟩ := id hL
  obtain ⟨s1, s2, s3, s4⟩ := id hS
  obtain ⟨S0, hS0⟩ := id hR0.1
  obtain ⟨R, Q, q, hR, hQ, hq, hok⟩ := id hR0.2
  have kb := kd_B
  have kl := kd_Log
  have ke := kd_ents
  have ks := kd_sc0 sc204
  have ks1 := kd_sc1 sc204
  have ks2 := kd_sc2 sc204
  have ks3 := kd_sc3 sc204
  have ks4 := kd_sc4 sc204
  have kt := kd_sc0 sc329
  have kt3 := kd_sc3 sc329
  have kp := kd_PT
  have kL := kd_Ls
  have cs8 := cs_scr
  have k58 := kd_458
  have k59 := kd_459
  have kr := kd_Reg
  have km := kd_marks
  have kc := kd_codes
  have k3 := kd_cols
  have k4 := kd_prows
  have kar := kd_areas
  have kow := kd_owners
  have ken := kd_ends
  have kq := kd_queue
  have kt1 := kd_sc1 sc329
  have kt2 := kd_sc2 sc329
  refine jj_iload_n F dX8_pass_0 rfl ?_
  refine jj_iconst F (v := nI 1) dX8_pass_1 (by decide) ?_
  refine jj_icmp_lt F (tgt := 12) dX8_pass_2 (by decide) (fun h2 => ?_) (fun h2 => ?_)
  · exact jj_throwS F X (ik := 78) (is := 80) (ic := 82) (text := "ticks is not 1 to 1000") (by decide +kernel) xk_IA xi_IA xa_IA (by decide +kernel) dX8_pass_12 dX8_pass_15 dX8_pass_16 dX8_pass_18 dX8_pass_21 (Nat.le_of_ble_eq_true rfl) (Nat.le_of_ble_eq_true rfl) (Nat.le_of_ble_eq_true rfl) (Nat.le_of_ble_eq_true rfl) hB
  · refine jj_iload_n F dX8_pass_5 rfl ?_
    refine jj_sipush F (v := nI 1000) dX8_pass_6 (by decide) ?_
    refine jj_icmp_le F (tgt := 22) dX8_pass_9 (by decide) (fun h9 => absurd h9 (wi_nle hw h2)) (fun _ => ?_)
    exact jj_throwS F X (ik := 78) (is := 80) (ic := 82) (text := "ticks is not 1 to 1000") (by decide +kernel) xk_IA xi_IA xa_IA (by decide +kernel) dX8_pass_12 dX8_pass_15 dX8_pass_16 dX8_pass_18 dX8_pass_21 (Nat.le_of_ble_eq_true rfl) (Nat.le_of_ble_eq_true rfl) (Nat.le_of_ble_eq_true rfl) (Nat.le_of_ble_eq_true rfl) hB
set_option maxRecDepth 100000 in
set_option maxHeartbeats 1000000 in
theorem t_pass_2 {l : Launch} {E : Ee} {M : Mm} {a : Ab} {W : Nat} (hB : RelB M a W) {k : Nat} (hk1 : 1 ≤ k) (hk : k ≤ 1000) (hL9 : 100000 < a_t a + k) (hst : l.stackTraces = false) : CtT l E yX8_pass (.code yX8_pass cX8_pass 2 (some .int) :: gl) ({ frames := 7, cells := 1, slots := 6, locals := 130 } : Room) M [.ref (E.2.2 0), .int (nI k)] eIS (fun M2 => RelB M2 a W) := by
  refine ctT_of (L0 := [some (.ref (E.2.2 0)), some (.int (nI k))]) hst (by decide) rfl (Nat.le_of_ble_eq_true rfl) rfl ?_
  intro Z hl hE hnl F X
  subst hE
  have in_X8 : ∀ w ∈ u_ws RX8 TX8 9, w ∈ (.code yX8_pass cX8_pass 2 (some .int) :: gl) := fun w h => List.mem_cons_of_mem _ (lay_X8 w h)
  have g60 : FG Z 60 8 8 := fg_mk F (C := RX8) (T := TX8) (N := 9) in_X8 rfl (by decide) rfl (List.mem_cons_of_mem _ fk_X8_60)
  have p60 : FP Z 60 8 8 .int := fp_mk F (C := RX8) (T := TX8) (N := 9) in_X8 tyX8_ok nmX8 rfl (by decide) rfl (List.mem_cons_of_mem _ fk_X8_60) rfl (by decide +kernel)
  obtain ⟨hO, hL, hU, hK, hS, hT, hR0⟩ := id hB
  obtain ⟨h60, ht, htk, hn, hop, hac, hopk, Cb, hC, hCb⟩ := id hO
  obtain ⟨own, en, fa, la, l1, hA, hp⟩ := id hL
  obtain ⟨s1, s2, s3, s4⟩ := id hS
  obtain ⟨S0, hS0⟩ := id hR0.1
  obtain ⟨R, Q, q, hR, hQ, hq, hok⟩ := id hR0.2
  have kb := kd_B
  have kl := kd_Log
  have ke := kd_ents
  have ks := kd_sc0 sc204
  have ks1 := kd_sc1 sc204
  have ks2 := kd_sc2 sc204
  have ks3 := kd_sc3 sc204
  have ks4 := kd_sc4 sc204
  have kt := kd_sc0 sc329
  have kt3 := kd_sc3 sc329
  have kp := kd_PT
  have kL := kd_Ls
  have cs8 := cs_scr
  have k58 := kd_458
  have k59 := kd_459
  have kr := kd_Reg
  have km := kd_marks
  have kc := kd_codes
  have k3 := kd_cols
  have k4 := kd_prows
  have kar := kd_areas
  have kow := kd_owners
  have ken := kd_ends
  have kq := kd_queue
  have kt1 := kd_sc1 sc329
  have kt2 := kd_sc2 sc329
  refine jj_iload_n F dX8_pass_0 rfl ?_
  refine jj_iconst F (v := nI 1) dX8_pass_1 (by decide) ?_
  refine jj_icmp_lt F (tgt := 12) dX8_pass_2 (by decide) (fun h9 => absurd h9 (nI_nlt (b := 1) (by omega) (by omega))) (fun _ => ?_)
  refine jj_iload_n F dX8_pass_5 rfl ?_
  refine jj_sipush F (v := nI 1000) dX8_pass_6 (by decide) ?_
  refine jj_icmp_le F (tgt := 22) dX8_pass_9 (by decide) (fun _ => ?_) (fun h9 => absurd (nI_le (b := 1000) (by omega) (by omega)) h9)
  refine jj_aload_n F dX8_pass_22 rfl ?_
  refine jj_geti F g60 (by assumption) (by rfl) dX8_pass_23 ?_
  rw [htk]
  refine jj_iload_n F dX8_pass_26 rfl ?_
  refine jj_iadd F dX8_pass_27 ?_
  rw [nI_add]
  refine jj_ldc F (v := 100000) dX8_pass_28 (F.hts _ (List.mem_cons_of_mem _ (gl_tb (by decide +kernel) rfl))) ?_
  refine jj_icmp_le F (tgt := 43) dX8_pass_30 (by decide) (fun h9 => absurd h9 (nI_ge (a := 100000) (by omega) (by omega))) (fun _ => ?_)
  exact jj_throwS F X (ik := 86) (is := 88) (ic := 90) (text := "the tick would be greater than 100000") (by decide +kernel) xk_IS xi_IS xa_IS (by decide +kernel) dX8_pass_33 dX8_pass_36 dX8_pass_37 dX8_pass_39 dX8_pass_42 (Nat.le_of_ble_eq_true rfl) (Nat.le_of_ble_eq_true rfl) (Nat.le_of_ble_eq_true rfl) (Nat.le_of_ble_eq_true rfl) hB
set_option maxRecDepth 100000 in
set_option maxHeartbeats 1000000 in
theorem t_append_1 {l : Launch} {E : Ee} {M : Mm} {a : Ab} {W : Nat} (hB : RelB M a W) {x : Int32} (hw : wiB x (nI 33) (nI 126) = false) (hst : l.stackTraces = false) : CtT l E yX8_append (.code yX8_append cX8_append 2 (some .int) :: gl) ({ frames := 7, cells := 1, slots := 6, locals := 130 } : Room) M [.ref (E.2.2 0), .int x] eIA (fun M2 => RelB M2 a W) := by
  refine ctT_of (L0 := [some (.ref (E.2.2 0)), some (.int x)]) hst (by decide) rfl (Nat.le_of_ble_eq_true rfl) rfl ?_
  intro Z hl hE hnl F X
  subst hE
  have in_X5 : ∀ w ∈ u_ws RX5 TX5 7, w ∈ (.code yX8_append cX8_append 2 (some .int) :: gl) := fun w h => List.mem_cons_of_mem _ (lay_X5 w h)
  have in_X8 : ∀ w ∈ u_ws RX8 TX8 9, w ∈ (.code yX8_append cX8_append 2 (some .int) :: gl) := fun w h => List.mem_cons_of_mem _ (lay_X8 w h)
  have g10 : FG Z 10 8 0 := fg_mk F (C := RX8) (T := TX8) (N := 9) in_X8 rfl (by decide) rfl (List.mem_cons_of_mem _ fk_X8_10)
  have g93 : FG Z 93 5 1 := fg_mk F (C := RX5) (T := TX5) (N := 7) in_X5 rfl (by decide) rfl (List.mem_cons_of_mem _ fk_X8_93)
  have g98 : FG Z 98 5 0 := fg_mk F (C := RX5) (T := TX5) (N := 7) in_X5 rfl (by decide) rfl (List.mem_cons_of_mem _ fk_X8_98)
  have p93 : FP Z 93 5 1 .int := fp_mk F (C := RX5) (T := TX5) (N := 7) in_X5 tyX5_ok nmX5 rfl (by decide) rfl (List.mem_cons_of_mem _ fk_X8_93) rfl (by decide +kernel)
  obtain ⟨hO, hL, hU, hK, hS, hT, hR0⟩ := id hB
  obtain ⟨h60, ht, htk, hn, hop, hac, hopk, Cb, hC, hCb⟩ := id hO
  obtain ⟨own, en, fa, la, l1, hA, hp⟩ := id hL
  obtain ⟨s1, s2, s3, s4⟩ := id hS
  obtain ⟨S0, hS0⟩ := id hR0.1
  obtain ⟨R, Q, q, hR, hQ, hq, hok⟩ := id hR0.2
  have kb := kd_B
  have kl := kd_Log
  have ke := kd_ents
  have ks := kd_sc0 sc204
  have ks1 := kd_sc1 sc204
  have ks2 := kd_sc2 sc204
  have ks3 := kd_sc3 sc204
  have ks4 := kd_sc4 sc204
  have kt := kd_sc0 sc329
  have kt3 := kd_sc3 sc329
  have kp := kd_PT
  have kL := kd_Ls
  have cs8 := cs_scr
  have k58 := kd_458
  have k59 := kd_459
  have kr := kd_Reg
  have km := kd_marks
  have kc := kd_codes
  have k3 := kd_cols
  have k4 := kd_prows
  have kar := kd_areas
  have kow := kd_owners
  have ken := kd_ends
  have kq := kd_queue
  have kt1 := kd_sc1 sc329
  have kt2 := kd_sc2 sc329
  refine jj_iload_n F dX8_append_0 rfl ?_
  refine jj_bipush F (v := nI 33) dX8_append_1 (by decide) ?_
  refine jj_icmp_lt F (tgt := 12) dX8_append_3 (by decide) (fun h3 => ?_) (fun h3 => ?_)
  · exact jj_throwS F X (ik := 78) (is := 91) (ic := 82) (text := "code is not 33 to 126") (by decide +kernel) xk_IA xi_IA xa_IA (by decide +kernel) dX8_append_12 dX8_append_15 dX8_append_16 dX8_append_18 dX8_append_21 (Nat.le_of_ble_eq_true rfl) (Nat.le_of_ble_eq_true rfl) (Nat.le_of_ble_eq_true rfl) (Nat.le_of_ble_eq_true rfl) hB
  · refine jj_iload_n F dX8_append_6 rfl ?_
    refine jj_bipush F (v := nI 126) dX8_append_7 (by decide) ?_
    refine jj_icmp_le F (tgt := 22) dX8_append_9 (by decide) (fun h9 => absurd h9 (wi_nle hw h3)) (fun _ => ?_)
    exact jj_throwS F X (ik := 78) (is := 91) (ic := 82) (text := "code is not 33 to 126") (by decide +kernel) xk_IA xi_IA xa_IA (by decide +kernel) dX8_append_12 dX8_append_15 dX8_append_16 dX8_append_18 dX8_append_21 (Nat.le_of_ble_eq_true rfl) (Nat.le_of_ble_eq_true rfl) (Nat.le_of_ble_eq_true rfl) (Nat.le_of_ble_eq_true rfl) hB
set_option maxRecDepth 100000 in
set_option maxHeartbeats 1000000 in
theorem t_append_2 {l : Launch} {E : Ee} {M : Mm} {a : Ab} {W : Nat} (hB : RelB M a W) {x : Int32} (hx1 : nI 33 ≤ x) (hx2 : x ≤ nI 126) (h40 : a_ln a = 40) (hst : l.stackTraces = false) : CtT l E yX8_append (.code yX8_append cX8_append 2 (some .int) :: gl) ({ frames := 7, cells := 1, slots := 6, locals := 130 } : Room) M [.ref (E.2.2 0), .int x] eIS (fun M2 => RelB M2 a W) := by
  refine ctT_of (L0 := [some (.ref (E.2.2 0)), some (.int x)]) hst (by decide) rfl (Nat.le_of_ble_eq_true rfl) rfl ?_
  intro Z hl hE hnl F X
  subst hE
  have in_X5 : ∀ w ∈ u_ws RX5 TX5 7, w ∈ (.code yX8_append cX8_append 2 (some .int) :: gl) := fun w h => List.mem_cons_of_mem _ (lay_X5 w h)
  have in_X8 : ∀ w ∈ u_ws RX8 TX8 9, w ∈ (.code yX8_append cX8_append 2 (some .int) :: gl) := fun w h => List.mem_cons_of_mem _ (lay_X8 w h)
  have g10 : FG Z 10 8 0 := fg_mk F (C := RX8) (T := TX8) (N := 9) in_X8 rfl (by decide) rfl (List.mem_cons_of_mem _ fk_X8_10)
  have g93 : FG Z 93 5 1 := fg_mk F (C := RX5) (T := TX5) (N := 7) in_X5 rfl (by decide) rfl (List.mem_cons_of_mem _ fk_X8_93)
  have g98 : FG Z 98 5 0 := fg_mk F (C := RX5) (T := TX5) (N := 7) in_X5 rfl (by decide) rfl (List.mem_cons_of_mem _ fk_X8_98)
  have p93 : FP Z 93 5 1 .int := fp_mk F (C := RX5) (T := TX5) (N := 7) in_X5 tyX5_ok nmX5 rfl (by decide) rfl (List.mem_cons_of_mem _ fk_X8_93) rfl (by decide +kernel)
  obtain ⟨hO, hL, hU, hK, hS, hT, hR0⟩ := id hB
  obtain ⟨h60, ht, htk, hn, hop, hac, hopk, Cb, hC, hCb⟩ := id hO
  obtain ⟨own, en, fa, la, l1, hA, hp⟩ := id hL
  obtain ⟨s1, s2, s3, s4⟩ := id hS
  obtain ⟨S0, hS0⟩ := id hR0.1
  obtain ⟨R, Q, q, hR, hQ, hq, hok⟩ := id hR0.2
  have kb := kd_B
  have kl := kd_Log
  have ke := kd_ents
  have ks := kd_sc0 sc204
  have ks1 := kd_sc1 sc204
  have ks2 := kd_sc2 sc204
  have ks3 := kd_sc3 sc204
  have ks4 := kd_sc4 sc204
  have kt := kd_sc0 sc329
  have kt3 := kd_sc3 sc329
  have kp := kd_PT
  have kL := kd_Ls
  have cs8 := cs_scr
  have k58 := kd_458
  have k59 := kd_459
  have kr := kd_Reg
  have km := kd_marks
  have kc := kd_codes
  have k3 := kd_cols
  have k4 := kd_prows
  have kar := kd_areas
  have kow := kd_owners
  have ken := kd_ends
  have kq := kd_queue
  have kt1 := kd_sc1 sc329
  have kt2 := kd_sc2 sc329
  refine jj_iload_n F dX8_append_0 rfl ?_
  refine jj_bipush F (v := nI 33) dX8_append_1 (by decide) ?_
  refine jj_icmp_lt F (tgt := 12) dX8_append_3 (by decide) (fun h9 => absurd h9 (i32_le_nlt hx1)) (fun _ => ?_)
  refine jj_iload_n F dX8_append_6 rfl ?_
  refine jj_bipush F (v := nI 126) dX8_append_7 (by decide) ?_
  refine jj_icmp_le F (tgt := 22) dX8_append_9 (by decide) (fun _ => ?_) (fun h9 => absurd (hx2) h9)
  refine jj_aload_n F dX8_append_22 rfl ?_
  refine jj_getr F g10 (by assumption) (by rfl) dX8_append_23 ?_
  refine jj_geti F g93 (by assumption) (by rfl) dX8_append_26 ?_
  rw [show M.1 1 1 = nI (a_ln a) from hT.1]
  refine jj_bipush F (v := nI 40) dX8_append_29 (by decide) ?_
  refine jj_icmp_lt F (tgt := 44) dX8_append_31 (by decide) (fun h9 => absurd h9 (by rw [h40]; decide)) (fun _ => ?_)
  exact jj_throwS F X (ik := 86) (is := 96) (ic := 90) (text := "the buffer has 40 characters") (by decide +kernel) xk_IS xi_IS xa_IS (by decide +kernel) dX8_append_34 dX8_append_37 dX8_append_38 dX8_append_40 dX8_append_43 (Nat.le_of_ble_eq_true rfl) (Nat.le_of_ble_eq_true rfl) (Nat.le_of_ble_eq_true rfl) (Nat.le_of_ble_eq_true rfl) hB
set_option maxRecDepth 100000 in
set_option maxHeartbeats 1000000 in
theorem t_stroke_u {l : Launch} {E : Ee} {M : Mm} {a : Ab} {W : Nat} (hB : RelB M a W) {x y z w : Int32} (hw : wiB x (nI 0) (nI 4) = false) (hst : l.stackTraces = false) : CtT l E yX8_stroke (.code yX8_stroke cX8_stroke 6 (some .int) :: gl) ({ frames := 7, cells := 1, slots := 6, locals := 130 } : Room) M [.ref (E.2.2 0), .int x, .int y, .int z, .int w] eIX (fun M2 => RelB M2 a W) := by
  refine ctT_of (L0 := [some (.ref (E.2.2 0)), some (.int x), some (.int y), some (.int z), some (.int w), none]) hst (by decide) rfl (Nat.le_of_ble_eq_true rfl) rfl ?_
  intro Z hl hE hnl F X
  subst hE
  have in_X4 : ∀ w ∈ u_ws RX4 TX4 9, w ∈ (.code yX8_stroke cX8_stroke 6 (some .int) :: gl) := fun w h => List.mem_cons_of_mem _ (lay_X4 w h)
  have in_X8 : ∀ w ∈ u_ws RX8 TX8 9, w ∈ (.code yX8_stroke cX8_stroke 6 (some .int) :: gl) := fun w h => List.mem_cons_of_mem _ (lay_X8 w h)
  have g19 : FG Z 19 8 1 := fg_mk F (C := RX8) (T := TX8) (N := 9) in_X8 rfl (by decide) rfl (List.mem_cons_of_mem _ fk_X8_19)
  have g60 : FG Z 60 8 8 := fg_mk F (C := RX8) (T := TX8) (N := 9) in_X8 rfl (by decide) rfl (List.mem_cons_of_mem _ fk_X8_60)
  have g140 : FG Z 140 4 8 := fg_mk F (C := RX4) (T := TX4) (N := 9) in_X4 rfl (by decide) rfl (List.mem_cons_of_mem _ fk_X8_140)
  have p128 : FP Z 128 4 3 .int := fp_mk F (C := RX4) (T := TX4) (N := 9) in_X4 tyX4_ok nmX4 rfl (by decide) rfl (List.mem_cons_of_mem _ fk_X8_128) rfl (by decide +kernel)
  have p133 : FP Z 133 4 4 .int := fp_mk F (C := RX4) (T := TX4) (N := 9) in_X4 tyX4_ok nmX4 rfl (by decide) rfl (List.mem_cons_of_mem _ fk_X8_133) rfl (by decide +kernel)
  obtain ⟨hO, hL, hU, hK, hS, hT, hR0⟩ := id hB
  obtain ⟨h60, ht, htk, hn, hop, hac, hopk, Cb, hC, hCb⟩ := id hO
  obtain ⟨own, en, fa, la, l1, hA, hp⟩ := id hL
  obtain ⟨s1, s2, s3, s4⟩ := id hS
  obtain ⟨S0, hS0⟩ := id hR0.1
  obtain ⟨R, Q, q, hR, hQ, hq, hok⟩ := id hR0.2
  have kb := kd_B
  have kl := kd_Log
  have ke := kd_ents
  have ks := kd_sc0 sc204
  have ks1 := kd_sc1 sc204
  have ks2 := kd_sc2 sc204
  have ks3 := kd_sc3 sc204
  have ks4 := kd_sc4 sc204
  have kt := kd_sc0 sc329
  have kt3 := kd_sc3 sc329
  have kp := kd_PT
  have kL := kd_Ls
  have cs8 := cs_scr
  have k58 := kd_458
  have k59 := kd_459
  have kr := kd_Reg
  have km := kd_marks
  have kc := kd_codes
  have k3 := kd_cols
  have k4 := kd_prows
  have kar := kd_areas
  have kow := kd_owners
  have ken := kd_ends
  have kq := kd_queue
  have kt1 := kd_sc1 sc329
  have kt2 := kd_sc2 sc329
  refine jj_iload_n F dX8_stroke_0 rfl ?_
  exact jj_thrS (na := 1) F X (t_refuseWrongUser_x hw (by rw [hl]; exact hst)) (gl_S mk_X8_106 vw_X8_refuseWrongUser) rfl rfl rfl (by decide +kernel) ⟨(Nat.le_of_ble_eq_true rfl), (Nat.le_of_ble_eq_true rfl)⟩ rfl rfl (Nat.le_of_ble_eq_true rfl) ⟨(Nat.le_of_ble_eq_true rfl), (Nat.le_of_ble_eq_true rfl)⟩ dX8_stroke_1 (fun M2 h => by rw [h]; exact hB)
set_option maxRecDepth 100000 in
set_option maxHeartbeats 1000000 in
theorem t_stroke_l {l : Launch} {E : Ee} {M : Mm} {a : Ab} {W : Nat} (hB : RelB M a W) {u : Nat} {x z w : Int32} (hu : u < 5) (hw : wiB x (nI 0) (nI 2) = false) (hst : l.stackTraces = false) : CtT l E yX8_stroke (.code yX8_stroke cX8_stroke 6 (some .int) :: gl) ({ frames := 7, cells := 1, slots := 6, locals := 130 } : Room) M [.ref (E.2.2 0), .int (nI u), .int x, .int z, .int w] eIX (fun M2 => RelB M2 a W) := by
  refine ctT_of (L0 := [some (.ref (E.2.2 0)), some (.int (nI u)), some (.int x), some (.int z), some (.int w), none]) hst (by decide) rfl (Nat.le_of_ble_eq_true rfl) rfl ?_
  intro Z hl hE hnl F X
  subst hE
  have in_X4 : ∀ w ∈ u_ws RX4 TX4 9, w ∈ (.code yX8_stroke cX8_stroke 6 (some .int) :: gl) := fun w h => List.mem_cons_of_mem _ (lay_X4 w h)
  have in_X8 : ∀ w ∈ u_ws RX8 TX8 9, w ∈ (.code yX8_stroke cX8_stroke 6 (some .int) :: gl) := fun w h => List.mem_cons_of_mem _ (lay_X8 w h)
  have g19 : FG Z 19 8 1 := fg_mk F (C := RX8) (T := TX8) (N := 9) in_X8 rfl (by decide) rfl (List.mem_cons_of_mem _ fk_X8_19)
  have g60 : FG Z 60 8 8 := fg_mk F (C := RX8) (T := TX8) (N := 9) in_X8 rfl (by decide) rfl (List.mem_cons_of_mem _ fk_X8_60)
  have g140 : FG Z 140 4 8 := fg_mk F (C := RX4) (T := TX4) (N := 9) in_X4 rfl (by decide) rfl (List.mem_cons_of_mem _ fk_X8_140)
  have p128 : FP Z 128 4 3 .int := fp_mk F (C := RX4) (T := TX4) (N := 9) in_X4 tyX4_ok nmX4 rfl (by decide) rfl (List.mem_cons_of_mem _ fk_X8_128) rfl (by decide +kernel)
  have p133 : FP Z 133 4 4 .int := fp_mk F (C := RX4) (T := TX4) (N := 9) in_X4 tyX4_ok nmX4 rfl (by decide) rfl (List.mem_cons_of_mem _ fk_X8_133) rfl (by decide +kernel)
  obtain ⟨hO, hL, hU, hK, hS, hT, hR0⟩ := id hB
  obtain ⟨h60, ht, htk, hn, hop, hac, hopk, Cb, hC, hCb⟩ := id hO
  obtain ⟨own, en, fa, la, l1, hA, hp⟩ := id hL
  obtain ⟨s1, s2, s3, s4⟩ := id hS
  obtain ⟨S0, hS0⟩ := id hR0.1
  obtain ⟨R, Q, q, hR, hQ, hq, hok⟩ := id hR0.2
  have kb := kd_B
  have kl := kd_Log
  have ke := kd_ents
  have ks := kd_sc0 sc204
  have ks1 := kd_sc1 sc204
  have ks2 := kd_sc2 sc204
  have ks3 := kd_sc3 sc204
  have ks4 := kd_sc4 sc204
  have kt := kd_sc0 sc329
  have kt3 := kd_sc3 sc329
  have kp := kd_PT
  have kL := kd_Ls
  have cs8 := cs_scr
  have k58 := kd_458
  have k59 := kd_459
  have kr := kd_Reg
  have km := kd_marks
  have kc := kd_codes
  have k3 := kd_cols
  have k4 := kd_prows
  have kar := kd_areas
  have kow := kd_owners
  have ken := kd_ends
  have kq := kd_queue
  have kt1 := kd_sc1 sc329
  have kt2 := kd_sc2 sc329
  refine jj_iload_n F dX8_stroke_0 rfl ?_
  refine jj_callSv (na := 1) F (c_X8_refuseWrongUser hu) (gl_S mk_X8_106 vw_X8_refuseWrongUser) rfl rfl rfl (by decide +kernel) ⟨Nat.le_of_ble_eq_true rfl, Nat.le_of_ble_eq_true rfl⟩ rfl rfl (Nat.le_of_ble_eq_true rfl) ⟨Nat.le_of_ble_eq_true rfl, Nat.le_of_ble_eq_true rfl⟩ dX8_stroke_1 (fun M1 hp1 => ?_)
  obtain rfl := hp1.symm
  refine jj_iload_n F dX8_stroke_4 rfl ?_
  exact jj_thrS (na := 1) F X (t_refuseWrongLayer_x hw (by rw [hl]; exact hst)) (gl_S mk_X8_110 vw_X8_refuseWrongLayer) rfl rfl rfl (by decide +kernel) ⟨(Nat.le_of_ble_eq_true rfl), (Nat.le_of_ble_eq_true rfl)⟩ rfl rfl (Nat.le_of_ble_eq_true rfl) ⟨(Nat.le_of_ble_eq_true rfl), (Nat.le_of_ble_eq_true rfl)⟩ dX8_stroke_5 (fun M2 h => by rw [h]; exact hB)
set_option maxRecDepth 100000 in
set_option maxHeartbeats 1000000 in
theorem t_stroke_c {l : Launch} {E : Ee} {M : Mm} {a : Ab} {W : Nat} (hB : RelB M a W) {u la : Nat} (hu : u < 5) (hla : la < 3) {x w : Int32} (hw : wiB x (nI 1) (nI 9) = false) (hst : l.stackTraces = false) : CtT l E yX8_stroke (.code yX8_stroke cX8_stroke 6 (some .int) :: gl) ({ frames := 7, cells := 1, slots := 6, locals := 130 } : Room) M [.ref (E.2.2 0), .int (nI u), .int (nI la), .int x, .int w] eIA (fun M2 => RelB M2 a W) := by
  refine ctT_of (L0 := [some (.ref (E.2.2 0)), some (.int (nI u)), some (.int (nI la)), some (.int x), some (.int w), none]) hst (by decide) rfl (Nat.le_of_ble_eq_true rfl) rfl ?_
  intro Z hl hE hnl F X
  subst hE
  have in_X4 : ∀ w ∈ u_ws RX4 TX4 9, w ∈ (.code yX8_stroke cX8_stroke 6 (some .int) :: gl) := fun w h => List.mem_cons_of_mem _ (lay_X4 w h)
  have in_X8 : ∀ w ∈ u_ws RX8 TX8 9, w ∈ (.code yX8_stroke cX8_stroke 6 (some .int) :: gl) := fun w h => List.mem_cons_of_mem _ (lay_X8 w h)
  have g19 : FG Z 19 8 1 := fg_mk F (C := RX8) (T := TX8) (N := 9) in_X8 rfl (by decide) rfl (List.mem_cons_of_mem _ fk_X8_19)
  have g60 : FG Z 60 8 8 := fg_mk F (C := RX8) (T := TX8) (N := 9) in_X8 rfl (by decide) rfl (List.mem_cons_of_mem _ fk_X8_60)
  have g140 : FG Z 140 4 8 := fg_mk F (C := RX4) (T := TX4) (N := 9) in_X4 rfl (by decide) rfl (List.mem_cons_of_mem _ fk_X8_140)
  have p128 : FP Z 128 4 3 .int := fp_mk F (C := RX4) (T := TX4) (N := 9) in_X4 tyX4_ok nmX4 rfl (by decide) rfl (List.mem_cons_of_mem _ fk_X8_128) rfl (by decide +kernel)
  have p133 : FP Z 133 4 4 .int := fp_mk F (C := RX4) (T := TX4) (N := 9) in_X4 tyX4_ok nmX4 rfl (by decide) rfl (List.mem_cons_of_mem _ fk_X8_133) rfl (by decide +kernel)
  obtain ⟨hO, hL, hU, hK, hS, hT, hR0⟩ := id hB
  obtain ⟨h60, ht, htk, hn, hop, hac, hopk, Cb, hC, hCb⟩ := id hO
  obtain ⟨own, en, fa, la, l1, hA, hp⟩ := id hL
  obtain ⟨s1, s2, s3, s4⟩ := id hS
  obtain ⟨S0, hS0⟩ := id hR0.1
  obtain ⟨R, Q, q, hR, hQ, hq, hok⟩ := id hR0.2
  have kb := kd_B
  have kl := kd_Log
  have ke := kd_ents
  have ks := kd_sc0 sc204
  have ks1 := kd_sc1 sc204
  have ks2 := kd_sc2 sc204
  have ks3 := kd_sc3 sc204
  have ks4 := kd_sc4 sc204
  have kt := kd_sc0 sc329
  have kt3 := kd_sc3 sc329
  have kp := kd_PT
  have kL := kd_Ls
  have cs8 := cs_scr
  have k58 := kd_458
  have k59 := kd_459
  have kr := kd_Reg
  have km := kd_marks
  have kc := kd_codes
  have k3 := kd_cols
  have k4 := kd_prows
  have kar := kd_areas
  have kow := kd_owners
  have ken := kd_ends
  have kq := kd_queue
  have kt1 := kd_sc1 sc329
  have kt2 := kd_sc2 sc329
  refine jj_iload_n F dX8_stroke_0 rfl ?_
  refine jj_callSv (na := 1) F (c_X8_refuseWrongUser hu) (gl_S mk_X8_106 vw_X8_refuseWrongUser) rfl rfl rfl (by decide +kernel) ⟨Nat.le_of_ble_eq_true rfl, Nat.le_of_ble_eq_true rfl⟩ rfl rfl (Nat.le_of_ble_eq_true rfl) ⟨Nat.le_of_ble_eq_true rfl, Nat.le_of_ble_eq_true rfl⟩ dX8_stroke_1 (fun M1 hp1 => ?_)
  obtain rfl := hp1.symm
  refine jj_iload_n F dX8_stroke_4 rfl ?_
  refine jj_callSv (na := 1) F (c_X8_refuseWrongLayer hla) (gl_S mk_X8_110 vw_X8_refuseWrongLayer) rfl rfl rfl (by decide +kernel) ⟨Nat.le_of_ble_eq_true rfl, Nat.le_of_ble_eq_true rfl⟩ rfl rfl (Nat.le_of_ble_eq_true rfl) ⟨Nat.le_of_ble_eq_true rfl, Nat.le_of_ble_eq_true rfl⟩ dX8_stroke_5 (fun M5 hp5 => ?_)
  obtain rfl := hp5.symm
  refine jj_iload_n F dX8_stroke_8 rfl ?_
  exact jj_thrS (na := 1) F X (t_refuseWrongColor_x hw (by rw [hl]; exact hst)) (gl_S mk_X8_113 vw_X8_refuseWrongColor) rfl rfl rfl (by decide +kernel) ⟨(Nat.le_of_ble_eq_true rfl), (Nat.le_of_ble_eq_true rfl)⟩ rfl rfl (Nat.le_of_ble_eq_true rfl) ⟨(Nat.le_of_ble_eq_true rfl), (Nat.le_of_ble_eq_true rfl)⟩ dX8_stroke_9 (fun M2 h => by rw [h]; exact hB)
set_option maxRecDepth 100000 in
set_option maxHeartbeats 1000000 in
theorem t_stroke_f {l : Launch} {E : Ee} {M : Mm} {a : Ab} {W : Nat} (hB : RelB M a W) {u la : Nat} (hu : u < 5) (hla : la < 3) {co : Nat} {x : Int32} (h1 : 1 ≤ co) (h9 : co ≤ 9) (hw : wiB x (nI 0) (nI 999) = false) (hst : l.stackTraces = false) : CtT l E yX8_stroke (.code yX8_stroke cX8_stroke 6 (some .int) :: gl) ({ frames := 7, cells := 1, slots := 6, locals := 130 } : Room) M [.ref (E.2.2 0), .int (nI u), .int (nI la), .int (nI co), .int x] eIA (fun M2 => RelB M2 a W) := by
  refine ctT_of (L0 := [some (.ref (E.2.2 0)), some (.int (nI u)), some (.int (nI la)), some (.int (nI co)), some (.int x), none]) hst (by decide) rfl (Nat.le_of_ble_eq_true rfl) rfl ?_
  intro Z hl hE hnl F X
  subst hE
  have in_X4 : ∀ w ∈ u_ws RX4 TX4 9, w ∈ (.code yX8_stroke cX8_stroke 6 (some .int) :: gl) := fun w h => List.mem_cons_of_mem _ (lay_X4 w h)
  have in_X8 : ∀ w ∈ u_ws RX8 TX8 9, w ∈ (.code yX8_stroke cX8_stroke 6 (some .int) :: gl) := fun w h => List.mem_cons_of_mem _ (lay_X8 w h)
  have g19 : FG Z 19 8 1 := fg_mk F (C := RX8) (T := TX8) (N := 9) in_X8 rfl (by decide) rfl (List.mem_cons_of_mem _ fk_X8_19)
  have g60 : FG Z 60 8 8 := fg_mk F (C := RX8) (T := TX8) (N := 9) in_X8 rfl (by decide) rfl (List.mem_cons_of_mem _ fk_X8_60)
  have g140 : FG Z 140 4 8 := fg_mk F (C := RX4) (T := TX4) (N := 9) in_X4 rfl (by decide) rfl (List.mem_cons_of_mem _ fk_X8_140)
  have p128 : FP Z 128 4 3 .int := fp_mk F (C := RX4) (T := TX4) (N := 9) in_X4 tyX4_ok nmX4 rfl (by decide) rfl (List.mem_cons_of_mem _ fk_X8_128) rfl (by decide +kernel)
  have p133 : FP Z 133 4 4 .int := fp_mk F (C := RX4) (T := TX4) (N := 9) in_X4 tyX4_ok nmX4 rfl (by decide) rfl (List.mem_cons_of_mem _ fk_X8_133) rfl (by decide +kernel)
  obtain ⟨hO, hL, hU, hK, hS, hT, hR0⟩ := id hB
  obtain ⟨h60, ht, htk, hn, hop, hac, hopk, Cb, hC, hCb⟩ := id hO
  obtain ⟨own, en, fa, la, l1, hA, hp⟩ := id hL
  obtain ⟨s1, s2, s3, s4⟩ := id hS
  obtain ⟨S0, hS0⟩ := id hR0.1
  obtain ⟨R, Q, q, hR, hQ, hq, hok⟩ := id hR0.2
  have kb := kd_B
  have kl := kd_Log
  have ke := kd_ents
  have ks := kd_sc0 sc204
  have ks1 := kd_sc1 sc204
  have ks2 := kd_sc2 sc204
  have ks3 := kd_sc3 sc204
  have ks4 := kd_sc4 sc204
  have kt := kd_sc0 sc329
  have kt3 := kd_sc3 sc329
  have kp := kd_PT
  have kL := kd_Ls
  have cs8 := cs_scr
  have k58 := kd_458
  have k59 := kd_459
  have kr := kd_Reg
  have km := kd_marks
  have kc := kd_codes
  have k3 := kd_cols
  have k4 := kd_prows
  have kar := kd_areas
  have kow := kd_owners
  have ken := kd_ends
  have kq := kd_queue
  have kt1 := kd_sc1 sc329
  have kt2 := kd_sc2 sc329
  refine jj_iload_n F dX8_stroke_0 rfl ?_
  refine jj_callSv (na := 1) F (c_X8_refuseWrongUser hu) (gl_S mk_X8_106 vw_X8_refuseWrongUser) rfl rfl rfl (by decide +kernel) ⟨Nat.le_of_ble_eq_true rfl, Nat.le_of_ble_eq_true rfl⟩ rfl rfl (Nat.le_of_ble_eq_true rfl) ⟨Nat.le_of_ble_eq_true rfl, Nat.le_of_ble_eq_true rfl⟩ dX8_stroke_1 (fun M1 hp1 => ?_)
  obtain rfl := hp1.symm
  refine jj_iload_n F dX8_stroke_4 rfl ?_
  refine jj_callSv (na := 1) F (c_X8_refuseWrongLayer hla) (gl_S mk_X8_110 vw_X8_refuseWrongLayer) rfl rfl rfl (by decide +kernel) ⟨Nat.le_of_ble_eq_true rfl, Nat.le_of_ble_eq_true rfl⟩ rfl rfl (Nat.le_of_ble_eq_true rfl) ⟨Nat.le_of_ble_eq_true rfl, Nat.le_of_ble_eq_true rfl⟩ dX8_stroke_5 (fun M5 hp5 => ?_)
  obtain rfl := hp5.symm
  refine jj_iload_n F dX8_stroke_8 rfl ?_
  refine jj_callSv (na := 1) F (c_X8_refuseWrongColor h1 h9) (gl_S mk_X8_113 vw_X8_refuseWrongColor) rfl rfl rfl (by decide +kernel) ⟨Nat.le_of_ble_eq_true rfl, Nat.le_of_ble_eq_true rfl⟩ rfl rfl (Nat.le_of_ble_eq_true rfl) ⟨Nat.le_of_ble_eq_true rfl, Nat.le_of_ble_eq_true rfl⟩ dX8_stroke_9 (fun M9 hp9 => ?_)
  obtain rfl := hp9.symm
  refine jj_iload F dX8_stroke_12 rfl ?_
  refine jj_if_lt F (tgt := 25) dX8_stroke_14 (by decide) (fun h14 => ?_) (fun h14 => ?_)
  · exact jj_throwS F X (ik := 78) (is := 116) (ic := 82) (text := "fade is not 0 to 999") (by decide +kernel) xk_IA xi_IA xa_IA (by decide +kernel) dX8_stroke_25 dX8_stroke_28 dX8_stroke_29 dX8_stroke_31 dX8_stroke_34 (Nat.le_of_ble_eq_true rfl) (Nat.le_of_ble_eq_true rfl) (Nat.le_of_ble_eq_true rfl) (Nat.le_of_ble_eq_true rfl) hB
  · refine jj_iload F dX8_stroke_17 rfl ?_
    refine jj_sipush F (v := nI 999) dX8_stroke_19 (by decide) ?_
    refine jj_icmp_le F (tgt := 35) dX8_stroke_22 (by decide) (fun h9 => absurd h9 (wi_nle hw h14)) (fun _ => ?_)
    exact jj_throwS F X (ik := 78) (is := 116) (ic := 82) (text := "fade is not 0 to 999") (by decide +kernel) xk_IA xi_IA xa_IA (by decide +kernel) dX8_stroke_25 dX8_stroke_28 dX8_stroke_29 dX8_stroke_31 dX8_stroke_34 (Nat.le_of_ble_eq_true rfl) (Nat.le_of_ble_eq_true rfl) (Nat.le_of_ble_eq_true rfl) (Nat.le_of_ble_eq_true rfl) hB
set_option maxRecDepth 100000 in
set_option maxHeartbeats 1000000 in
theorem t_stroke_p {l : Launch} {E : Ee} {M : Mm} {a : Ab} {W : Nat} (hB : RelB M a W) {u la : Nat} (hu : u < 5) (hla : la < 3) {co fa9 : Nat} (h1 : 1 ≤ co) (h9 : co ≤ 9) (hf9 : fa9 ≤ 999) (hok9 : okP a = false) (hst : l.stackTraces = false) : CtT l E yX8_stroke (.code yX8_stroke cX8_stroke 6 (some .int) :: gl) ({ frames := 7, cells := 1, slots := 6, locals := 130 } : Room) M [.ref (E.2.2 0), .int (nI u), .int (nI la), .int (nI co), .int (nI fa9)] eIS (fun M2 => RelB M2 a W) := by
  refine ctT_of (L0 := [some (.ref (E.2.2 0)), some (.int (nI u)), some (.int (nI la)), some (.int (nI co)), some (.int (nI fa9)), none]) hst (by decide) rfl (Nat.le_of_ble_eq_true rfl) rfl ?_
  intro Z hl hE hnl F X
  subst hE
  have in_X4 : ∀ w ∈ u_ws RX4 TX4 9, w ∈ (.code yX8_stroke cX8_stroke 6 (some .int) :: gl) := fun w h => List.mem_cons_of_mem _ (lay_X4 w h)
  have in_X8 : ∀ w ∈ u_ws RX8 TX8 9, w ∈ (.code yX8_stroke cX8_stroke 6 (some .int) :: gl) := fun w h => List.mem_cons_of_mem _ (lay_X8 w h)
  have g19 : FG Z 19 8 1 := fg_mk F (C := RX8) (T := TX8) (N := 9) in_X8 rfl (by decide) rfl (List.mem_cons_of_mem _ fk_X8_19)
  have g60 : FG Z 60 8 8 := fg_mk F (C := RX8) (T := TX8) (N := 9) in_X8 rfl (by decide) rfl (List.mem_cons_of_mem _ fk_X8_60)
  have g140 : FG Z 140 4 8 := fg_mk F (C := RX4) (T := TX4) (N := 9) in_X4 rfl (by decide) rfl (List.mem_cons_of_mem _ fk_X8_140)
  have p128 : FP Z 128 4 3 .int := fp_mk F (C := RX4) (T := TX4) (N := 9) in_X4 tyX4_ok nmX4 rfl (by decide) rfl (List.mem_cons_of_mem _ fk_X8_128) rfl (by decide +kernel)
  have p133 : FP Z 133 4 4 .int := fp_mk F (C := RX4) (T := TX4) (N := 9) in_X4 tyX4_ok nmX4 rfl (by decide) rfl (List.mem_cons_of_mem _ fk_X8_133) rfl (by decide +kernel)
  obtain ⟨hO, hL, hU, hK, hS, hT, hR0⟩ := id hB
  obtain ⟨h60, ht, htk, hn, hop, hac, hopk, Cb, hC, hCb⟩ := id hO
  obtain ⟨own, en, fa, la, l1, hA, hp⟩ := id hL
  obtain ⟨s1, s2, s3, s4⟩ := id hS
  obtain ⟨S0, hS0⟩ := id hR0.1
  obtain ⟨R, Q, q, hR, hQ, hq, hok⟩ := id hR0.2
  have kb := kd_B
  have kl := kd_Log
  have ke := kd_ents
  have ks := kd_sc0 sc204
  have ks1 := kd_sc1 sc204
  have ks2 := kd_sc2 sc204
  have ks3 := kd_sc3 sc204
  have ks4 := kd_sc4 sc204
  have kt := kd_sc0 sc329
  have kt3 := kd_sc3 sc329
  have kp := kd_PT
  have kL := kd_Ls
  have cs8 := cs_scr
  have k58 := kd_458
  have k59 := kd_459
  have kr := kd_Reg
  have km := kd_marks
  have kc := kd_codes
  have k3 := kd_cols
  have k4 := kd_prows
  have kar := kd_areas
  have kow := kd_owners
  have ken := kd_ends
  have kq := kd_queue
  have kt1 := kd_sc1 sc329
  have kt2 := kd_sc2 sc329
  refine jj_iload_n F dX8_stroke_0 rfl ?_
  refine jj_callSv (na := 1) F (c_X8_refuseWrongUser hu) (gl_S mk_X8_106 vw_X8_refuseWrongUser) rfl rfl rfl (by decide +kernel) ⟨Nat.le_of_ble_eq_true rfl, Nat.le_of_ble_eq_true rfl⟩ rfl rfl (Nat.le_of_ble_eq_true rfl) ⟨Nat.le_of_ble_eq_true rfl, Nat.le_of_ble_eq_true rfl⟩ dX8_stroke_1 (fun M1 hp1 => ?_)
  obtain rfl := hp1.symm
  refine jj_iload_n F dX8_stroke_4 rfl ?_
  refine jj_callSv (na := 1) F (c_X8_refuseWrongLayer hla) (gl_S mk_X8_110 vw_X8_refuseWrongLayer) rfl rfl rfl (by decide +kernel) ⟨Nat.le_of_ble_eq_true rfl, Nat.le_of_ble_eq_true rfl⟩ rfl rfl (Nat.le_of_ble_eq_true rfl) ⟨Nat.le_of_ble_eq_true rfl, Nat.le_of_ble_eq_true rfl⟩ dX8_stroke_5 (fun M5 hp5 => ?_)
  obtain rfl := hp5.symm
  refine jj_iload_n F dX8_stroke_8 rfl ?_
  refine jj_callSv (na := 1) F (c_X8_refuseWrongColor h1 h9) (gl_S mk_X8_113 vw_X8_refuseWrongColor) rfl rfl rfl (by decide +kernel) ⟨Nat.le_of_ble_eq_true rfl, Nat.le_of_ble_eq_true rfl⟩ rfl rfl (Nat.le_of_ble_eq_true rfl) ⟨Nat.le_of_ble_eq_true rfl, Nat.le_of_ble_eq_true rfl⟩ dX8_stroke_9 (fun M9 hp9 => ?_)
  obtain rfl := hp9.symm
  refine jj_iload F dX8_stroke_12 rfl ?_
  refine jj_if_lt F (tgt := 25) dX8_stroke_14 (by decide) (fun h9 => absurd h9 (nI_nlt (b := 0) (Nat.zero_le _) (by omega))) (fun _ => ?_)
  refine jj_iload F dX8_stroke_17 rfl ?_
  refine jj_sipush F (v := nI 999) dX8_stroke_19 (by decide) ?_
  refine jj_icmp_le F (tgt := 35) dX8_stroke_22 (by decide) (fun _ => ?_) (fun h9 => absurd (nI_le (b := 999) (by omega) (by omega)) h9)
  refine jj_aload_n F dX8_stroke_35 rfl ?_
  exact jj_thrV (na := 0) F X (t_refuseWrongPath_x hB hok9 (by rw [hl]; exact hst)) (gl_V mk_X8_118 vw_X8_refuseWrongPath) rfl rfl rfl (by decide +kernel) ⟨(Nat.le_of_ble_eq_true rfl), (Nat.le_of_ble_eq_true rfl)⟩ kb rfl rfl rfl (Nat.le_of_ble_eq_true rfl) ⟨(Nat.le_of_ble_eq_true rfl), (Nat.le_of_ble_eq_true rfl)⟩ dX8_stroke_36 (fun M2 h => h)
set_option maxRecDepth 100000 in
set_option maxHeartbeats 1000000 in
theorem t_stroke_n {l : Launch} {E : Ee} {M : Mm} {a : Ab} {W : Nat} (hB : RelB M a W) {u la : Nat} (hu : u < 5) (hla : la < 3) {co fa9 : Nat} (h1 : 1 ≤ co) (h9 : co ≤ 9) (hf9 : fa9 ≤ 999) (hok9 : okP a = true) (h60n : a_n a = 60) (hst : l.stackTraces = false) : CtT l E yX8_stroke (.code yX8_stroke cX8_stroke 6 (some .int) :: gl) ({ frames := 7, cells := 1, slots := 6, locals := 130 } : Room) M [.ref (E.2.2 0), .int (nI u), .int (nI la), .int (nI co), .int (nI fa9)] eIS (fun M2 => RelB M2 a W) := by
  refine ctT_of (L0 := [some (.ref (E.2.2 0)), some (.int (nI u)), some (.int (nI la)), some (.int (nI co)), some (.int (nI fa9)), none]) hst (by decide) rfl (Nat.le_of_ble_eq_true rfl) rfl ?_
  intro Z hl hE hnl F X
  subst hE
  have in_X4 : ∀ w ∈ u_ws RX4 TX4 9, w ∈ (.code yX8_stroke cX8_stroke 6 (some .int) :: gl) := fun w h => List.mem_cons_of_mem _ (lay_X4 w h)
  have in_X8 : ∀ w ∈ u_ws RX8 TX8 9, w ∈ (.code yX8_stroke cX8_stroke 6 (some .int) :: gl) := fun w h => List.mem_cons_of_mem _ (lay_X8 w h)
  have g19 : FG Z 19 8 1 := fg_mk F (C := RX8) (T := TX8) (N := 9) in_X8 rfl (by decide) rfl (List.mem_cons_of_mem _ fk_X8_19)
  have g60 : FG Z 60 8 8 := fg_mk F (C := RX8) (T := TX8) (N := 9) in_X8 rfl (by decide) rfl (List.mem_cons_of_mem _ fk_X8_60)
  have g140 : FG Z 140 4 8 := fg_mk F (C := RX4) (T := TX4) (N := 9) in_X4 rfl (by decide) rfl (List.mem_cons_of_mem _ fk_X8_140)
  have p128 : FP Z 128 4 3 .int := fp_mk F (C := RX4) (T := TX4) (N := 9) in_X4 tyX4_ok nmX4 rfl (by decide) rfl (List.mem_cons_of_mem _ fk_X8_128) rfl (by decide +kernel)
  have p133 : FP Z 133 4 4 .int := fp_mk F (C := RX4) (T := TX4) (N := 9) in_X4 tyX4_ok nmX4 rfl (by decide) rfl (List.mem_cons_of_mem _ fk_X8_133) rfl (by decide +kernel)
  obtain ⟨hO, hL, hU, hK, hS, hT, hR0⟩ := id hB
  obtain ⟨h60, ht, htk, hn, hop, hac, hopk, Cb, hC, hCb⟩ := id hO
  obtain ⟨own, en, fa, la, l1, hA, hp⟩ := id hL
  obtain ⟨s1, s2, s3, s4⟩ := id hS
  obtain ⟨S0, hS0⟩ := id hR0.1
  obtain ⟨R, Q, q, hR, hQ, hq, hok⟩ := id hR0.2
  have kb := kd_B
  have kl := kd_Log
  have ke := kd_ents
  have ks := kd_sc0 sc204
  have ks1 := kd_sc1 sc204
  have ks2 := kd_sc2 sc204
  have ks3 := kd_sc3 sc204
  have ks4 := kd_sc4 sc204
  have kt := kd_sc0 sc329
  have kt3 := kd_sc3 sc329
  have kp := kd_PT
  have kL := kd_Ls
  have cs8 := cs_scr
  have k58 := kd_458
  have k59 := kd_459
  have kr := kd_Reg
  have km := kd_marks
  have kc := kd_codes
  have k3 := kd_cols
  have k4 := kd_prows
  have kar := kd_areas
  have kow := kd_owners
  have ken := kd_ends
  have kq := kd_queue
  have kt1 := kd_sc1 sc329
  have kt2 := kd_sc2 sc329
  refine jj_iload_n F dX8_stroke_0 rfl ?_
  refine jj_callSv (na := 1) F (c_X8_refuseWrongUser hu) (gl_S mk_X8_106 vw_X8_refuseWrongUser) rfl rfl rfl (by decide +kernel) ⟨Nat.le_of_ble_eq_true rfl, Nat.le_of_ble_eq_true rfl⟩ rfl rfl (Nat.le_of_ble_eq_true rfl) ⟨Nat.le_of_ble_eq_true rfl, Nat.le_of_ble_eq_true rfl⟩ dX8_stroke_1 (fun M1 hp1 => ?_)
  obtain rfl := hp1.symm
  refine jj_iload_n F dX8_stroke_4 rfl ?_
  refine jj_callSv (na := 1) F (c_X8_refuseWrongLayer hla) (gl_S mk_X8_110 vw_X8_refuseWrongLayer) rfl rfl rfl (by decide +kernel) ⟨Nat.le_of_ble_eq_true rfl, Nat.le_of_ble_eq_true rfl⟩ rfl rfl (Nat.le_of_ble_eq_true rfl) ⟨Nat.le_of_ble_eq_true rfl, Nat.le_of_ble_eq_true rfl⟩ dX8_stroke_5 (fun M5 hp5 => ?_)
  obtain rfl := hp5.symm
  refine jj_iload_n F dX8_stroke_8 rfl ?_
  refine jj_callSv (na := 1) F (c_X8_refuseWrongColor h1 h9) (gl_S mk_X8_113 vw_X8_refuseWrongColor) rfl rfl rfl (by decide +kernel) ⟨Nat.le_of_ble_eq_true rfl, Nat.le_of_ble_eq_true rfl⟩ rfl rfl (Nat.le_of_ble_eq_true rfl) ⟨Nat.le_of_ble_eq_true rfl, Nat.le_of_ble_eq_true rfl⟩ dX8_stroke_9 (fun M9 hp9 => ?_)
  obtain rfl := hp9.symm
  refine jj_iload F dX8_stroke_12 rfl ?_
  refine jj_if_lt F (tgt := 25) dX8_stroke_14 (by decide) (fun h9 => absurd h9 (nI_nlt (b := 0) (Nat.zero_le _) (by omega))) (fun _ => ?_)
  refine jj_iload F dX8_stroke_17 rfl ?_
  refine jj_sipush F (v := nI 999) dX8_stroke_19 (by decide) ?_
  refine jj_icmp_le F (tgt := 35) dX8_stroke_22 (by decide) (fun _ => ?_) (fun h9 => absurd (nI_le (b := 999) (by omega) (by omega)) h9)
  refine jj_aload_n F dX8_stroke_35 rfl ?_
  refine jj_callVv (na := 0) F (c_X8_refuseWrongPath hB hok9) (gl_V mk_X8_118 vw_X8_refuseWrongPath) rfl rfl rfl (by decide +kernel) ⟨Nat.le_of_ble_eq_true rfl, Nat.le_of_ble_eq_true rfl⟩ (by assumption) rfl rfl rfl (Nat.le_of_ble_eq_true rfl) ⟨Nat.le_of_ble_eq_true rfl, Nat.le_of_ble_eq_true rfl⟩ dX8_stroke_36 (fun MP hpP => ?_)
  obtain ⟨ps, rfl, hps, hpe⟩ := hpP
  have hBP := RelB_pt hB hps
  refine jj_aload_n F dX8_stroke_39 rfl ?_
  exact jj_thrV (na := 0) F X (t_refuseFullLog_x (n := a_n a) hBP.1.2.2.2.1 h60n (by rw [hl]; exact hst)) (gl_V mk_X8_121 vw_X8_refuseFullLog) rfl rfl rfl (by decide +kernel) ⟨(Nat.le_of_ble_eq_true rfl), (Nat.le_of_ble_eq_true rfl)⟩ kb rfl rfl rfl (Nat.le_of_ble_eq_true rfl) ⟨(Nat.le_of_ble_eq_true rfl), (Nat.le_of_ble_eq_true rfl)⟩ dX8_stroke_40 (fun M2 h => by rw [h]; exact hBP)
set_option maxRecDepth 100000 in
set_option maxHeartbeats 1000000 in
theorem t_erase_u {l : Launch} {E : Ee} {M : Mm} {a : Ab} {W : Nat} (hB : RelB M a W) {x y z : Int32} (hw : wiB x (nI 0) (nI 4) = false) (hst : l.stackTraces = false) : CtT l E yX8_erase (.code yX8_erase cX8_erase 5 (some .int) :: gl) ({ frames := 7, cells := 1, slots := 6, locals := 130 } : Room) M [.ref (E.2.2 0), .int x, .int y, .int z] eIX (fun M2 => RelB M2 a W) := by
  refine ctT_of (L0 := [some (.ref (E.2.2 0)), some (.int x), some (.int y), some (.int z), none]) hst (by decide) rfl (Nat.le_of_ble_eq_true rfl) rfl ?_
  intro Z hl hE hnl F X
  subst hE
  have in_X2 : ∀ w ∈ u_ws RX2 TX2 3, w ∈ (.code yX8_erase cX8_erase 5 (some .int) :: gl) := fun w h => List.mem_cons_of_mem _ (lay_X2 w h)
  have in_X4 : ∀ w ∈ u_ws RX4 TX4 9, w ∈ (.code yX8_erase cX8_erase 5 (some .int) :: gl) := fun w h => List.mem_cons_of_mem _ (lay_X4 w h)
  have in_X8 : ∀ w ∈ u_ws RX8 TX8 9, w ∈ (.code yX8_erase cX8_erase 5 (some .int) :: gl) := fun w h => List.mem_cons_of_mem _ (lay_X8 w h)
  have g19 : FG Z 19 8 1 := fg_mk F (C := RX8) (T := TX8) (N := 9) in_X8 rfl (by decide) rfl (List.mem_cons_of_mem _ fk_X8_19)
  have g60 : FG Z 60 8 8 := fg_mk F (C := RX8) (T := TX8) (N := 9) in_X8 rfl (by decide) rfl (List.mem_cons_of_mem _ fk_X8_60)
  have g65 : FG Z 65 2 1 := fg_mk F (C := RX2) (T := TX2) (N := 3) in_X2 rfl (by decide) rfl (List.mem_cons_of_mem _ fk_X8_65)
  have p128 : FP Z 128 4 3 .int := fp_mk F (C := RX4) (T := TX4) (N := 9) in_X4 tyX4_ok nmX4 rfl (by decide) rfl (List.mem_cons_of_mem _ fk_X8_128) rfl (by decide +kernel)
  obtain ⟨hO, hL, hU, hK, hS, hT, hR0⟩ := id hB
  obtain ⟨h60, ht, htk, hn, hop, hac, hopk, Cb, hC, hCb⟩ := id hO
  obtain ⟨own, en, fa, la, l1, hA, hp⟩ := id hL
  obtain ⟨s1, s2, s3, s4⟩ := id hS
  obtain ⟨S0, hS0⟩ := id hR0.1
  obtain ⟨R, Q, q, hR, hQ, hq, hok⟩ := id hR0.2
  have kb := kd_B
  have kl := kd_Log
  have ke := kd_ents
  have ks := kd_sc0 sc204
  have ks1 := kd_sc1 sc204
  have ks2 := kd_sc2 sc204
  have ks3 := kd_sc3 sc204
  have ks4 := kd_sc4 sc204
  have kt := kd_sc0 sc329
  have kt3 := kd_sc3 sc329
  have kp := kd_PT
  have kL := kd_Ls
  have cs8 := cs_scr
  have k58 := kd_458
  have k59 := kd_459
  have kr := kd_Reg
  have km := kd_marks
  have kc := kd_codes
  have k3 := kd_cols
  have k4 := kd_prows
  have kar := kd_areas
  have kow := kd_owners
  have ken := kd_ends
  have kq := kd_queue
  have kt1 := kd_sc1 sc329
  have kt2 := kd_sc2 sc329
  refine jj_iload_n F dX8_erase_0 rfl ?_
  exact jj_thrS (na := 1) F X (t_refuseWrongUser_x hw (by rw [hl]; exact hst)) (gl_S mk_X8_106 vw_X8_refuseWrongUser) rfl rfl rfl (by decide +kernel) ⟨(Nat.le_of_ble_eq_true rfl), (Nat.le_of_ble_eq_true rfl)⟩ rfl rfl (Nat.le_of_ble_eq_true rfl) ⟨(Nat.le_of_ble_eq_true rfl), (Nat.le_of_ble_eq_true rfl)⟩ dX8_erase_1 (fun M2 h => by rw [h]; exact hB)
set_option maxRecDepth 100000 in
set_option maxHeartbeats 1000000 in
theorem t_erase_l {l : Launch} {E : Ee} {M : Mm} {a : Ab} {W : Nat} (hB : RelB M a W) {u : Nat} {x z : Int32} (hu : u < 5) (hw : wiB x (nI 0) (nI 2) = false) (hst : l.stackTraces = false) : CtT l E yX8_erase (.code yX8_erase cX8_erase 5 (some .int) :: gl) ({ frames := 7, cells := 1, slots := 6, locals := 130 } : Room) M [.ref (E.2.2 0), .int (nI u), .int x, .int z] eIX (fun M2 => RelB M2 a W) := by
  refine ctT_of (L0 := [some (.ref (E.2.2 0)), some (.int (nI u)), some (.int x), some (.int z), none]) hst (by decide) rfl (Nat.le_of_ble_eq_true rfl) rfl ?_
  intro Z hl hE hnl F X
  subst hE
  have in_X2 : ∀ w ∈ u_ws RX2 TX2 3, w ∈ (.code yX8_erase cX8_erase 5 (some .int) :: gl) := fun w h => List.mem_cons_of_mem _ (lay_X2 w h)
  have in_X4 : ∀ w ∈ u_ws RX4 TX4 9, w ∈ (.code yX8_erase cX8_erase 5 (some .int) :: gl) := fun w h => List.mem_cons_of_mem _ (lay_X4 w h)
  have in_X8 : ∀ w ∈ u_ws RX8 TX8 9, w ∈ (.code yX8_erase cX8_erase 5 (some .int) :: gl) := fun w h => List.mem_cons_of_mem _ (lay_X8 w h)
  have g19 : FG Z 19 8 1 := fg_mk F (C := RX8) (T := TX8) (N := 9) in_X8 rfl (by decide) rfl (List.mem_cons_of_mem _ fk_X8_19)
  have g60 : FG Z 60 8 8 := fg_mk F (C := RX8) (T := TX8) (N := 9) in_X8 rfl (by decide) rfl (List.mem_cons_of_mem _ fk_X8_60)
  have g65 : FG Z 65 2 1 := fg_mk F (C := RX2) (T := TX2) (N := 3) in_X2 rfl (by decide) rfl (List.mem_cons_of_mem _ fk_X8_65)
  have p128 : FP Z 128 4 3 .int := fp_mk F (C := RX4) (T := TX4) (N := 9) in_X4 tyX4_ok nmX4 rfl (by decide) rfl (List.mem_cons_of_mem _ fk_X8_128) rfl (by decide +kernel)
  obtain ⟨hO, hL, hU, hK, hS, hT, hR0⟩ := id hB
  obtain ⟨h60, ht, htk, hn, hop, hac, hopk, Cb, hC, hCb⟩ := id hO
  obtain ⟨own, en, fa, la, l1, hA, hp⟩ := id hL
  obtain ⟨s1, s2, s3, s4⟩ := id hS
  obtain ⟨S0, hS0⟩ := id hR0.1
  obtain ⟨R, Q, q, hR, hQ, hq, hok⟩ := id hR0.2
  have kb := kd_B
  have kl := kd_Log
  have ke := kd_ents
  have ks := kd_sc0 sc204
  have ks1 := kd_sc1 sc204
  have ks2 := kd_sc2 sc204
  have ks3 := kd_sc3 sc204
  have ks4 := kd_sc4 sc204
  have kt := kd_sc0 sc329
  have kt3 := kd_sc3 sc329
  have kp := kd_PT
  have kL := kd_Ls
  have cs8 := cs_scr
  have k58 := kd_458
  have k59 := kd_459
  have kr := kd_Reg
  have km := kd_marks
  have kc := kd_codes
  have k3 := kd_cols
  have k4 := kd_prows
  have kar := kd_areas
  have kow := kd_owners
  have ken := kd_ends
  have kq := kd_queue
  have kt1 := kd_sc1 sc329
  have kt2 := kd_sc2 sc329
  refine jj_iload_n F dX8_erase_0 rfl ?_
  refine jj_callSv (na := 1) F (c_X8_refuseWrongUser hu) (gl_S mk_X8_106 vw_X8_refuseWrongUser) rfl rfl rfl (by decide +kernel) ⟨Nat.le_of_ble_eq_true rfl, Nat.le_of_ble_eq_true rfl⟩ rfl rfl (Nat.le_of_ble_eq_true rfl) ⟨Nat.le_of_ble_eq_true rfl, Nat.le_of_ble_eq_true rfl⟩ dX8_erase_1 (fun M1 hp1 => ?_)
  obtain rfl := hp1.symm
  refine jj_iload_n F dX8_erase_4 rfl ?_
  exact jj_thrS (na := 1) F X (t_refuseWrongLayer_x hw (by rw [hl]; exact hst)) (gl_S mk_X8_110 vw_X8_refuseWrongLayer) rfl rfl rfl (by decide +kernel) ⟨(Nat.le_of_ble_eq_true rfl), (Nat.le_of_ble_eq_true rfl)⟩ rfl rfl (Nat.le_of_ble_eq_true rfl) ⟨(Nat.le_of_ble_eq_true rfl), (Nat.le_of_ble_eq_true rfl)⟩ dX8_erase_5 (fun M2 h => by rw [h]; exact hB)
set_option maxRecDepth 100000 in
set_option maxHeartbeats 1000000 in
theorem t_erase_k {l : Launch} {E : Ee} {M : Mm} {a : Ab} {W : Nat} (hB : RelB M a W) {u la : Nat} (hu : u < 5) (hla : la < 3) {x : Int32} (hw : wiB x (nI 0) (nI 2) = false) (hst : l.stackTraces = false) : CtT l E yX8_erase (.code yX8_erase cX8_erase 5 (some .int) :: gl) ({ frames := 7, cells := 1, slots := 6, locals := 130 } : Room) M [.ref (E.2.2 0), .int (nI u), .int (nI la), .int x] eIA (fun M2 => RelB M2 a W) := by
  refine ctT_of (L0 := [some (.ref (E.2.2 0)), some (.int (nI u)), some (.int (nI la)), some (.int x), none]) hst (by decide) rfl (Nat.le_of_ble_eq_true rfl) rfl ?_
  intro Z hl hE hnl F X
  subst hE
  have in_X2 : ∀ w ∈ u_ws RX2 TX2 3, w ∈ (.code yX8_erase cX8_erase 5 (some .int) :: gl) := fun w h => List.mem_cons_of_mem _ (lay_X2 w h)
  have in_X4 : ∀ w ∈ u_ws RX4 TX4 9, w ∈ (.code yX8_erase cX8_erase 5 (some .int) :: gl) := fun w h => List.mem_cons_of_mem _ (lay_X4 w h)
  have in_X8 : ∀ w ∈ u_ws RX8 TX8 9, w ∈ (.code yX8_erase cX8_erase 5 (some .int) :: gl) := fun w h => List.mem_cons_of_mem _ (lay_X8 w h)
  have g19 : FG Z 19 8 1 := fg_mk F (C := RX8) (T := TX8) (N := 9) in_X8 rfl (by decide) rfl (List.mem_cons_of_mem _ fk_X8_19)
  have g60 : FG Z 60 8 8 := fg_mk F (C := RX8) (T := TX8) (N := 9) in_X8 rfl (by decide) rfl (List.mem_cons_of_mem _ fk_X8_60)
  have g65 : FG Z 65 2 1 := fg_mk F (C := RX2) (T := TX2) (N := 3) in_X2 rfl (by decide) rfl (List.mem_cons_of_mem _ fk_X8_65)
  have p128 : FP Z 128 4 3 .int := fp_mk F (C := RX4) (T := TX4) (N := 9) in_X4 tyX4_ok nmX4 rfl (by decide) rfl (List.mem_cons_of_mem _ fk_X8_128) rfl (by decide +kernel)
  obtain ⟨hO, hL, hU, hK, hS, hT, hR0⟩ := id hB
  obtain ⟨h60, ht, htk, hn, hop, hac, hopk, Cb, hC, hCb⟩ := id hO
  obtain ⟨own, en, fa, la, l1, hA, hp⟩ := id hL
  obtain ⟨s1, s2, s3, s4⟩ := id hS
  obtain ⟨S0, hS0⟩ := id hR0.1
  obtain ⟨R, Q, q, hR, hQ, hq, hok⟩ := id hR0.2
  have kb := kd_B
  have kl := kd_Log
  have ke := kd_ents
  have ks := kd_sc0 sc204
  have ks1 := kd_sc1 sc204
  have ks2 := kd_sc2 sc204
  have ks3 := kd_sc3 sc204
  have ks4 := kd_sc4 sc204
  have kt := kd_sc0 sc329
  have kt3 := kd_sc3 sc329
  have kp := kd_PT
  have kL := kd_Ls
  have cs8 := cs_scr
  have k58 := kd_458
  have k59 := kd_459
  have kr := kd_Reg
  have km := kd_marks
  have kc := kd_codes
  have k3 := kd_cols
  have k4 := kd_prows
  have kar := kd_areas
  have kow := kd_owners
  have ken := kd_ends
  have kq := kd_queue
  have kt1 := kd_sc1 sc329
  have kt2 := kd_sc2 sc329
  refine jj_iload_n F dX8_erase_0 rfl ?_
  refine jj_callSv (na := 1) F (c_X8_refuseWrongUser hu) (gl_S mk_X8_106 vw_X8_refuseWrongUser) rfl rfl rfl (by decide +kernel) ⟨Nat.le_of_ble_eq_true rfl, Nat.le_of_ble_eq_true rfl⟩ rfl rfl (Nat.le_of_ble_eq_true rfl) ⟨Nat.le_of_ble_eq_true rfl, Nat.le_of_ble_eq_true rfl⟩ dX8_erase_1 (fun M1 hp1 => ?_)
  obtain rfl := hp1.symm
  refine jj_iload_n F dX8_erase_4 rfl ?_
  refine jj_callSv (na := 1) F (c_X8_refuseWrongLayer hla) (gl_S mk_X8_110 vw_X8_refuseWrongLayer) rfl rfl rfl (by decide +kernel) ⟨Nat.le_of_ble_eq_true rfl, Nat.le_of_ble_eq_true rfl⟩ rfl rfl (Nat.le_of_ble_eq_true rfl) ⟨Nat.le_of_ble_eq_true rfl, Nat.le_of_ble_eq_true rfl⟩ dX8_erase_5 (fun M5 hp5 => ?_)
  obtain rfl := hp5.symm
  refine jj_iload_n F dX8_erase_8 rfl ?_
  refine jj_if_lt F (tgt := 17) dX8_erase_9 (by decide) (fun h9 => ?_) (fun h9 => ?_)
  · exact jj_throwS F X (ik := 78) (is := 145) (ic := 82) (text := "kind is not 0 to 2") (by decide +kernel) xk_IA xi_IA xa_IA (by decide +kernel) dX8_erase_17 dX8_erase_20 dX8_erase_21 dX8_erase_23 dX8_erase_26 (Nat.le_of_ble_eq_true rfl) (Nat.le_of_ble_eq_true rfl) (Nat.le_of_ble_eq_true rfl) (Nat.le_of_ble_eq_true rfl) hB
  · refine jj_iload_n F dX8_erase_12 rfl ?_
    refine jj_iconst F (v := nI 2) dX8_erase_13 (by decide) ?_
    refine jj_icmp_le F (tgt := 27) dX8_erase_14 (by decide) (fun h9 => absurd h9 (wi_nle hw (show ¬ x < 0 by assumption))) (fun _ => ?_)
    exact jj_throwS F X (ik := 78) (is := 145) (ic := 82) (text := "kind is not 0 to 2") (by decide +kernel) xk_IA xi_IA xa_IA (by decide +kernel) dX8_erase_17 dX8_erase_20 dX8_erase_21 dX8_erase_23 dX8_erase_26 (Nat.le_of_ble_eq_true rfl) (Nat.le_of_ble_eq_true rfl) (Nat.le_of_ble_eq_true rfl) (Nat.le_of_ble_eq_true rfl) hB
set_option maxRecDepth 100000 in
set_option maxHeartbeats 1000000 in
theorem t_erase_p {l : Launch} {E : Ee} {M : Mm} {a : Ab} {W : Nat} (hB : RelB M a W) {u la : Nat} (hu : u < 5) (hla : la < 3) {k : Nat} (hk3 : k < 3) (hok9 : okP a = false) (hst : l.stackTraces = false) : CtT l E yX8_erase (.code yX8_erase cX8_erase 5 (some .int) :: gl) ({ frames := 7, cells := 1, slots := 6, locals := 130 } : Room) M [.ref (E.2.2 0), .int (nI u), .int (nI la), .int (nI k)] eIS (fun M2 => RelB M2 a W) := by
  refine ctT_of (L0 := [some (.ref (E.2.2 0)), some (.int (nI u)), some (.int (nI la)), some (.int (nI k)), none]) hst (by decide) rfl (Nat.le_of_ble_eq_true rfl) rfl ?_
  intro Z hl hE hnl F X
  subst hE
  have in_X2 : ∀ w ∈ u_ws RX2 TX2 3, w ∈ (.code yX8_erase cX8_erase 5 (some .int) :: gl) := fun w h => List.mem_cons_of_mem _ (lay_X2 w h)
  have in_X4 : ∀ w ∈ u_ws RX4 TX4 9, w ∈ (.code yX8_erase cX8_erase 5 (some .int) :: gl) := fun w h => List.mem_cons_of_mem _ (lay_X4 w h)
  have in_X8 : ∀ w ∈ u_ws RX8 TX8 9, w ∈ (.code yX8_erase cX8_erase 5 (some .int) :: gl) := fun w h => List.mem_cons_of_mem _ (lay_X8 w h)
  have g19 : FG Z 19 8 1 := fg_mk F (C := RX8) (T := TX8) (N := 9) in_X8 rfl (by decide) rfl (List.mem_cons_of_mem _ fk_X8_19)
  have g60 : FG Z 60 8 8 := fg_mk F (C := RX8) (T := TX8) (N := 9) in_X8 rfl (by decide) rfl (List.mem_cons_of_mem _ fk_X8_60)
  have g65 : FG Z 65 2 1 := fg_mk F (C := RX2) (T := TX2) (N := 3) in_X2 rfl (by decide) rfl (List.mem_cons_of_mem _ fk_X8_65)
  have p128 : FP Z 128 4 3 .int := fp_mk F (C := RX4) (T := TX4) (N := 9) in_X4 tyX4_ok nmX4 rfl (by decide) rfl (List.mem_cons_of_mem _ fk_X8_128) rfl (by decide +kernel)
  obtain ⟨hO, hL, hU, hK, hS, hT, hR0⟩ := id hB
  obtain ⟨h60, ht, htk, hn, hop, hac, hopk, Cb, hC, hCb⟩ := id hO
  obtain ⟨own, en, fa, la, l1, hA, hp⟩ := id hL
  obtain ⟨s1, s2, s3, s4⟩ := id hS
  obtain ⟨S0, hS0⟩ := id hR0.1
  obtain ⟨R, Q, q, hR, hQ, hq, hok⟩ := id hR0.2
  have kb := kd_B
  have kl := kd_Log
  have ke := kd_ents
  have ks := kd_sc0 sc204
  have ks1 := kd_sc1 sc204
  have ks2 := kd_sc2 sc204
  have ks3 := kd_sc3 sc204
  have ks4 := kd_sc4 sc204
  have kt := kd_sc0 sc329
  have kt3 := kd_sc3 sc329
  have kp := kd_PT
  have kL := kd_Ls
  have cs8 := cs_scr
  have k58 := kd_458
  have k59 := kd_459
  have kr := kd_Reg
  have km := kd_marks
  have kc := kd_codes
  have k3 := kd_cols
  have k4 := kd_prows
  have kar := kd_areas
  have kow := kd_owners
  have ken := kd_ends
  have kq := kd_queue
  have kt1 := kd_sc1 sc329
  have kt2 := kd_sc2 sc329
  refine jj_iload_n F dX8_erase_0 rfl ?_
  refine jj_callSv (na := 1) F (c_X8_refuseWrongUser hu) (gl_S mk_X8_106 vw_X8_refuseWrongUser) rfl rfl rfl (by decide +kernel) ⟨Nat.le_of_ble_eq_true rfl, Nat.le_of_ble_eq_true rfl⟩ rfl rfl (Nat.le_of_ble_eq_true rfl) ⟨Nat.le_of_ble_eq_true rfl, Nat.le_of_ble_eq_true rfl⟩ dX8_erase_1 (fun M1 hp1 => ?_)
  obtain rfl := hp1.symm
  refine jj_iload_n F dX8_erase_4 rfl ?_
  refine jj_callSv (na := 1) F (c_X8_refuseWrongLayer hla) (gl_S mk_X8_110 vw_X8_refuseWrongLayer) rfl rfl rfl (by decide +kernel) ⟨Nat.le_of_ble_eq_true rfl, Nat.le_of_ble_eq_true rfl⟩ rfl rfl (Nat.le_of_ble_eq_true rfl) ⟨Nat.le_of_ble_eq_true rfl, Nat.le_of_ble_eq_true rfl⟩ dX8_erase_5 (fun M5 hp5 => ?_)
  obtain rfl := hp5.symm
  refine jj_iload_n F dX8_erase_8 rfl ?_
  refine jj_if_lt F (tgt := 17) dX8_erase_9 (by decide) (fun h9 => absurd h9 (nI_nlt (b := 0) (Nat.zero_le _) (by omega))) (fun _ => ?_)
  refine jj_iload_n F dX8_erase_12 rfl ?_
  refine jj_iconst F (v := nI 2) dX8_erase_13 (by decide) ?_
  refine jj_icmp_le F (tgt := 27) dX8_erase_14 (by decide) (fun _ => ?_) (fun h9 => absurd (nI_le (b := 2) (by omega) (by omega)) h9)
  refine jj_aload_n F dX8_erase_27 rfl ?_
  exact jj_thrV (na := 0) F X (t_refuseWrongPath_x hB hok9 (by rw [hl]; exact hst)) (gl_V mk_X8_118 vw_X8_refuseWrongPath) rfl rfl rfl (by decide +kernel) ⟨(Nat.le_of_ble_eq_true rfl), (Nat.le_of_ble_eq_true rfl)⟩ kb rfl rfl rfl (Nat.le_of_ble_eq_true rfl) ⟨(Nat.le_of_ble_eq_true rfl), (Nat.le_of_ble_eq_true rfl)⟩ dX8_erase_28 (fun M2 h => h)
set_option maxRecDepth 100000 in
set_option maxHeartbeats 1000000 in
theorem t_erase_n {l : Launch} {E : Ee} {M : Mm} {a : Ab} {W : Nat} (hB : RelB M a W) {u la : Nat} (hu : u < 5) (hla : la < 3) {k : Nat} (hk3 : k < 3) (hok9 : okP a = true) (h60n : a_n a = 60) (hst : l.stackTraces = false) : CtT l E yX8_erase (.code yX8_erase cX8_erase 5 (some .int) :: gl) ({ frames := 7, cells := 1, slots := 6, locals := 130 } : Room) M [.ref (E.2.2 0), .int (nI u), .int (nI la), .int (nI k)] eIS (fun M2 => RelB M2 a W) := by
  refine ctT_of (L0 := [some (.ref (E.2.2 0)), some (.int (nI u)), some (.int (nI la)), some (.int (nI k)), none]) hst (by decide) rfl (Nat.le_of_ble_eq_true rfl) rfl ?_
  intro Z hl hE hnl F X
  subst hE
  have in_X2 : ∀ w ∈ u_ws RX2 TX2 3, w ∈ (.code yX8_erase cX8_erase 5 (some .int) :: gl) := fun w h => List.mem_cons_of_mem _ (lay_X2 w h)
  have in_X4 : ∀ w ∈ u_ws RX4 TX4 9, w ∈ (.code yX8_erase cX8_erase 5 (some .int) :: gl) := fun w h => List.mem_cons_of_mem _ (lay_X4 w h)
  have in_X8 : ∀ w ∈ u_ws RX8 TX8 9, w ∈ (.code yX8_erase cX8_erase 5 (some .int) :: gl) := fun w h => List.mem_cons_of_mem _ (lay_X8 w h)
  have g19 : FG Z 19 8 1 := fg_mk F (C := RX8) (T := TX8) (N := 9) in_X8 rfl (by decide) rfl (List.mem_cons_of_mem _ fk_X8_19)
  have g60 : FG Z 60 8 8 := fg_mk F (C := RX8) (T := TX8) (N := 9) in_X8 rfl (by decide) rfl (List.mem_cons_of_mem _ fk_X8_60)
  have g65 : FG Z 65 2 1 := fg_mk F (C := RX2) (T := TX2) (N := 3) in_X2 rfl (by decide) rfl (List.mem_cons_of_mem _ fk_X8_65)
  have p128 : FP Z 128 4 3 .int := fp_mk F (C := RX4) (T := TX4) (N := 9) in_X4 tyX4_ok nmX4 rfl (by decide) rfl (List.mem_cons_of_mem _ fk_X8_128) rfl (by decide +kernel)
  obtain ⟨hO, hL, hU, hK, hS, hT, hR0⟩ := id hB
  obtain ⟨h60, ht, htk, hn, hop, hac, hopk, Cb, hC, hCb⟩ := id hO
  obtain ⟨own, en, fa, la, l1, hA, hp⟩ := id hL
  obtain ⟨s1, s2, s3, s4⟩ := id hS
  obtain ⟨S0, hS0⟩ := id hR0.1
  obtain ⟨R, Q, q, hR, hQ, hq, hok⟩ := id hR0.2
  have kb := kd_B
  have kl := kd_Log
  have ke := kd_ents
  have ks := kd_sc0 sc204
  have ks1 := kd_sc1 sc204
  have ks2 := kd_sc2 sc204
  have ks3 := kd_sc3 sc204
  have ks4 := kd_sc4 sc204
  have kt := kd_sc0 sc329
  have kt3 := kd_sc3 sc329
  have kp := kd_PT
  have kL := kd_Ls
  have cs8 := cs_scr
  have k58 := kd_458
  have k59 := kd_459
  have kr := kd_Reg
  have km := kd_marks
  have kc := kd_codes
  have k3 := kd_cols
  have k4 := kd_prows
  have kar := kd_areas
  have kow := kd_owners
  have ken := kd_ends
  have kq := kd_queue
  have kt1 := kd_sc1 sc329
  have kt2 := kd_sc2 sc329
  refine jj_iload_n F dX8_erase_0 rfl ?_
  refine jj_callSv (na := 1) F (c_X8_refuseWrongUser hu) (gl_S mk_X8_106 vw_X8_refuseWrongUser) rfl rfl rfl (by decide +kernel) ⟨Nat.le_of_ble_eq_true rfl, Nat.le_of_ble_eq_true rfl⟩ rfl rfl (Nat.le_of_ble_eq_true rfl) ⟨Nat.le_of_ble_eq_true rfl, Nat.le_of_ble_eq_true rfl⟩ dX8_erase_1 (fun M1 hp1 => ?_)
  obtain rfl := hp1.symm
  refine jj_iload_n F dX8_erase_4 rfl ?_
  refine jj_callSv (na := 1) F (c_X8_refuseWrongLayer hla) (gl_S mk_X8_110 vw_X8_refuseWrongLayer) rfl rfl rfl (by decide +kernel) ⟨Nat.le_of_ble_eq_true rfl, Nat.le_of_ble_eq_true rfl⟩ rfl rfl (Nat.le_of_ble_eq_true rfl) ⟨Nat.le_of_ble_eq_true rfl, Nat.le_of_ble_eq_true rfl⟩ dX8_erase_5 (fun M5 hp5 => ?_)
  obtain rfl := hp5.symm
  refine jj_iload_n F dX8_erase_8 rfl ?_
  refine jj_if_lt F (tgt := 17) dX8_erase_9 (by decide) (fun h9 => absurd h9 (nI_nlt (b := 0) (Nat.zero_le _) (by omega))) (fun _ => ?_)
  refine jj_iload_n F dX8_erase_12 rfl ?_
  refine jj_iconst F (v := nI 2) dX8_erase_13 (by decide) ?_
  refine jj_icmp_le F (tgt := 27) dX8_erase_14 (by decide) (fun _ => ?_) (fun h9 => absurd (nI_le (b := 2) (by omega) (by omega)) h9)
  refine jj_aload_n F dX8_erase_27 rfl ?_
  refine jj_callVv (na := 0) F (c_X8_refuseWrongPath hB hok9) (gl_V mk_X8_118 vw_X8_refuseWrongPath) rfl rfl rfl (by decide +kernel) ⟨Nat.le_of_ble_eq_true rfl, Nat.le_of_ble_eq_true rfl⟩ (by assumption) rfl rfl rfl (Nat.le_of_ble_eq_true rfl) ⟨Nat.le_of_ble_eq_true rfl, Nat.le_of_ble_eq_true rfl⟩ dX8_erase_28 (fun MP hpP => ?_)
  obtain ⟨ps, rfl, hps, hpe⟩ := hpP
  have hBP := RelB_pt hB hps
  refine jj_aload_n F dX8_erase_31 rfl ?_
  exact jj_thrV (na := 0) F X (t_refuseFullLog_x (n := a_n a) hBP.1.2.2.2.1 h60n (by rw [hl]; exact hst)) (gl_V mk_X8_121 vw_X8_refuseFullLog) rfl rfl rfl (by decide +kernel) ⟨(Nat.le_of_ble_eq_true rfl), (Nat.le_of_ble_eq_true rfl)⟩ kb rfl rfl rfl (Nat.le_of_ble_eq_true rfl) ⟨(Nat.le_of_ble_eq_true rfl), (Nat.le_of_ble_eq_true rfl)⟩ dX8_erase_32 (fun M2 h => by rw [h]; exact hBP)
set_option maxRecDepth 100000 in
set_option maxHeartbeats 1000000 in
theorem t_fill_u {l : Launch} {E : Ee} {M : Mm} {a : Ab} {W : Nat} (hB : RelB M a W) {x y z w : Int32} (hw : wiB x (nI 0) (nI 4) = false) (hst : l.stackTraces = false) : CtT l E yX8_fill (.code yX8_fill cX8_fill 6 (some .int) :: gl) ({ frames := 7, cells := 1, slots := 6, locals := 130 } : Room) M [.ref (E.2.2 0), .int x, .int y, .int z, .int w] eIX (fun M2 => RelB M2 a W) := by
  refine ctT_of (L0 := [some (.ref (E.2.2 0)), some (.int x), some (.int y), some (.int z), some (.int w), none]) hst (by decide) rfl (Nat.le_of_ble_eq_true rfl) rfl ?_
  intro Z hl hE hnl F X
  subst hE
  have in_X4 : ∀ w ∈ u_ws RX4 TX4 9, w ∈ (.code yX8_fill cX8_fill 6 (some .int) :: gl) := fun w h => List.mem_cons_of_mem _ (lay_X4 w h)
  have in_X7 : ∀ w ∈ u_ws RX7 TX7 4, w ∈ (.code yX8_fill cX8_fill 6 (some .int) :: gl) := fun w h => List.mem_cons_of_mem _ (lay_X7 w h)
  have in_X8 : ∀ w ∈ u_ws RX8 TX8 9, w ∈ (.code yX8_fill cX8_fill 6 (some .int) :: gl) := fun w h => List.mem_cons_of_mem _ (lay_X8 w h)
  have g19 : FG Z 19 8 1 := fg_mk F (C := RX8) (T := TX8) (N := 9) in_X8 rfl (by decide) rfl (List.mem_cons_of_mem _ fk_X8_19)
  have g39 : FG Z 39 8 4 := fg_mk F (C := RX8) (T := TX8) (N := 9) in_X8 rfl (by decide) rfl (List.mem_cons_of_mem _ fk_X8_39)
  have g49 : FG Z 49 8 6 := fg_mk F (C := RX8) (T := TX8) (N := 9) in_X8 rfl (by decide) rfl (List.mem_cons_of_mem _ fk_X8_49)
  have g56 : FG Z 56 8 7 := fg_mk F (C := RX8) (T := TX8) (N := 9) in_X8 rfl (by decide) rfl (List.mem_cons_of_mem _ fk_X8_56)
  have g60 : FG Z 60 8 8 := fg_mk F (C := RX8) (T := TX8) (N := 9) in_X8 rfl (by decide) rfl (List.mem_cons_of_mem _ fk_X8_60)
  have g140 : FG Z 140 4 8 := fg_mk F (C := RX4) (T := TX4) (N := 9) in_X4 rfl (by decide) rfl (List.mem_cons_of_mem _ fk_X8_140)
  have g154 : FG Z 154 7 2 := fg_mk F (C := RX7) (T := TX7) (N := 4) in_X7 rfl (by decide) rfl (List.mem_cons_of_mem _ fk_X8_154)
  have p128 : FP Z 128 4 3 .int := fp_mk F (C := RX4) (T := TX4) (N := 9) in_X4 tyX4_ok nmX4 rfl (by decide) rfl (List.mem_cons_of_mem _ fk_X8_128) rfl (by decide +kernel)
  obtain ⟨hO, hL, hU, hK, hS, hT, hR0⟩ := id hB
  obtain ⟨h60, ht, htk, hn, hop, hac, hopk, Cb, hC, hCb⟩ := id hO
  obtain ⟨own, en, fa, la, l1, hA, hp⟩ := id hL
  obtain ⟨s1, s2, s3, s4⟩ := id hS
  obtain ⟨S0, hS0⟩ := id hR0.1
  obtain ⟨R, Q, q, hR, hQ, hq, hok⟩ := id hR0.2
  have kb := kd_B
  have kl := kd_Log
  have ke := kd_ents
  have ks := kd_sc0 sc204
  have ks1 := kd_sc1 sc204
  have ks2 := kd_sc2 sc204
  have ks3 := kd_sc3 sc204
  have ks4 := kd_sc4 sc204
  have kt := kd_sc0 sc329
  have kt3 := kd_sc3 sc329
  have kp := kd_PT
  have kL := kd_Ls
  have cs8 := cs_scr
  have k58 := kd_458
  have k59 := kd_459
  have kr := kd_Reg
  have km := kd_marks
  have kc := kd_codes
  have k3 := kd_cols
  have k4 := kd_prows
  have kar := kd_areas
  have kow := kd_owners
  have ken := kd_ends
  have kq := kd_queue
  have kt1 := kd_sc1 sc329
  have kt2 := kd_sc2 sc329
  refine jj_iload_n F dX8_fill_0 rfl ?_
  exact jj_thrS (na := 1) F X (t_refuseWrongUser_x hw (by rw [hl]; exact hst)) (gl_S mk_X8_106 vw_X8_refuseWrongUser) rfl rfl rfl (by decide +kernel) ⟨(Nat.le_of_ble_eq_true rfl), (Nat.le_of_ble_eq_true rfl)⟩ rfl rfl (Nat.le_of_ble_eq_true rfl) ⟨(Nat.le_of_ble_eq_true rfl), (Nat.le_of_ble_eq_true rfl)⟩ dX8_fill_1 (fun M2 h => by rw [h]; exact hB)
set_option maxRecDepth 100000 in
set_option maxHeartbeats 1000000 in
theorem t_fill_l {l : Launch} {E : Ee} {M : Mm} {a : Ab} {W : Nat} (hB : RelB M a W) {u : Nat} {x z w : Int32} (hu : u < 5) (hw : wiB x (nI 0) (nI 2) = false) (hst : l.stackTraces = false) : CtT l E yX8_fill (.code yX8_fill cX8_fill 6 (some .int) :: gl) ({ frames := 7, cells := 1, slots := 6, locals := 130 } : Room) M [.ref (E.2.2 0), .int (nI u), .int x, .int z, .int w] eIX (fun M2 => RelB M2 a W) := by
  refine ctT_of (L0 := [some (.ref (E.2.2 0)), some (.int (nI u)), some (.int x), some (.int z), some (.int w), none]) hst (by decide) rfl (Nat.le_of_ble_eq_true rfl) rfl ?_
  intro Z hl hE hnl F X
  subst hE
  have in_X4 : ∀ w ∈ u_ws RX4 TX4 9, w ∈ (.code yX8_fill cX8_fill 6 (some .int) :: gl) := fun w h => List.mem_cons_of_mem _ (lay_X4 w h)
  have in_X7 : ∀ w ∈ u_ws RX7 TX7 4, w ∈ (.code yX8_fill cX8_fill 6 (some .int) :: gl) := fun w h => List.mem_cons_of_mem _ (lay_X7 w h)
  have in_X8 : ∀ w ∈ u_ws RX8 TX8 9, w ∈ (.code yX8_fill cX8_fill 6 (some .int) :: gl) := fun w h => List.mem_cons_of_mem _ (lay_X8 w h)
  have g19 : FG Z 19 8 1 := fg_mk F (C := RX8) (T := TX8) (N := 9) in_X8 rfl (by decide) rfl (List.mem_cons_of_mem _ fk_X8_19)
  have g39 : FG Z 39 8 4 := fg_mk F (C := RX8) (T := TX8) (N := 9) in_X8 rfl (by decide) rfl (List.mem_cons_of_mem _ fk_X8_39)
  have g49 : FG Z 49 8 6 := fg_mk F (C := RX8) (T := TX8) (N := 9) in_X8 rfl (by decide) rfl (List.mem_cons_of_mem _ fk_X8_49)
  have g56 : FG Z 56 8 7 := fg_mk F (C := RX8) (T := TX8) (N := 9) in_X8 rfl (by decide) rfl (List.mem_cons_of_mem _ fk_X8_56)
  have g60 : FG Z 60 8 8 := fg_mk F (C := RX8) (T := TX8) (N := 9) in_X8 rfl (by decide) rfl (List.mem_cons_of_mem _ fk_X8_60)
  have g140 : FG Z 140 4 8 := fg_mk F (C := RX4) (T := TX4) (N := 9) in_X4 rfl (by decide) rfl (List.mem_cons_of_mem _ fk_X8_140)
  have g154 : FG Z 154 7 2 := fg_mk F (C := RX7) (T := TX7) (N := 4) in_X7 rfl (by decide) rfl (List.mem_cons_of_mem _ fk_X8_154)
  have p128 : FP Z 128 4 3 .int := fp_mk F (C := RX4) (T := TX4) (N := 9) in_X4 tyX4_ok nmX4 rfl (by decide) rfl (List.mem_cons_of_mem _ fk_X8_128) rfl (by decide +kernel)
  obtain ⟨hO, hL, hU, hK, hS, hT, hR0⟩ := id hB
  obtain ⟨h60, ht, htk, hn, hop, hac, hopk, Cb, hC, hCb⟩ := id hO
  obtain ⟨own, en, fa, la, l1, hA, hp⟩ := id hL
  obtain ⟨s1, s2, s3, s4⟩ := id hS
  obtain ⟨S0, hS0⟩ := id hR0.1
  obtain ⟨R, Q, q, hR, hQ, hq, hok⟩ := id hR0.2
  have kb := kd_B
  have kl := kd_Log
  have ke := kd_ents
  have ks := kd_sc0 sc204
  have ks1 := kd_sc1 sc204
  have ks2 := kd_sc2 sc204
  have ks3 := kd_sc3 sc204
  have ks4 := kd_sc4 sc204
  have kt := kd_sc0 sc329
  have kt3 := kd_sc3 sc329
  have kp := kd_PT
  have kL := kd_Ls
  have cs8 := cs_scr
  have k58 := kd_458
  have k59 := kd_459
  have kr := kd_Reg
  have km := kd_marks
  have kc := kd_codes
  have k3 := kd_cols
  have k4 := kd_prows
  have kar := kd_areas
  have kow := kd_owners
  have ken := kd_ends
  have kq := kd_queue
  have kt1 := kd_sc1 sc329
  have kt2 := kd_sc2 sc329
  refine jj_iload_n F dX8_fill_0 rfl ?_
  refine jj_callSv (na := 1) F (c_X8_refuseWrongUser hu) (gl_S mk_X8_106 vw_X8_refuseWrongUser) rfl rfl rfl (by decide +kernel) ⟨Nat.le_of_ble_eq_true rfl, Nat.le_of_ble_eq_true rfl⟩ rfl rfl (Nat.le_of_ble_eq_true rfl) ⟨Nat.le_of_ble_eq_true rfl, Nat.le_of_ble_eq_true rfl⟩ dX8_fill_1 (fun M1 hp1 => ?_)
  obtain rfl := hp1.symm
  refine jj_iload_n F dX8_fill_4 rfl ?_
  exact jj_thrS (na := 1) F X (t_refuseWrongLayer_x hw (by rw [hl]; exact hst)) (gl_S mk_X8_110 vw_X8_refuseWrongLayer) rfl rfl rfl (by decide +kernel) ⟨(Nat.le_of_ble_eq_true rfl), (Nat.le_of_ble_eq_true rfl)⟩ rfl rfl (Nat.le_of_ble_eq_true rfl) ⟨(Nat.le_of_ble_eq_true rfl), (Nat.le_of_ble_eq_true rfl)⟩ dX8_fill_5 (fun M2 h => by rw [h]; exact hB)
set_option maxRecDepth 100000 in
set_option maxHeartbeats 1000000 in
theorem t_fill_e {l : Launch} {E : Ee} {M : Mm} {a : Ab} {W : Nat} (hB : RelB M a W) {u la : Nat} (hu : u < 5) (hla : la < 3) {z x : Int32} (hw : wiB x (nI 0) (nI 255) = false) (hst : l.stackTraces = false) : CtT l E yX8_fill (.code yX8_fill cX8_fill 6 (some .int) :: gl) ({ frames := 7, cells := 1, slots := 6, locals := 130 } : Room) M [.ref (E.2.2 0), .int (nI u), .int (nI la), .int z, .int x] eIX (fun M2 => RelB M2 a W) := by
  refine ctT_of (L0 := [some (.ref (E.2.2 0)), some (.int (nI u)), some (.int (nI la)), some (.int z), some (.int x), none]) hst (by decide) rfl (Nat.le_of_ble_eq_true rfl) rfl ?_
  intro Z hl hE hnl F X
  subst hE
  have in_X4 : ∀ w ∈ u_ws RX4 TX4 9, w ∈ (.code yX8_fill cX8_fill 6 (some .int) :: gl) := fun w h => List.mem_cons_of_mem _ (lay_X4 w h)
  have in_X7 : ∀ w ∈ u_ws RX7 TX7 4, w ∈ (.code yX8_fill cX8_fill 6 (some .int) :: gl) := fun w h => List.mem_cons_of_mem _ (lay_X7 w h)
  have in_X8 : ∀ w ∈ u_ws RX8 TX8 9, w ∈ (.code yX8_fill cX8_fill 6 (some .int) :: gl) := fun w h => List.mem_cons_of_mem _ (lay_X8 w h)
  have g19 : FG Z 19 8 1 := fg_mk F (C := RX8) (T := TX8) (N := 9) in_X8 rfl (by decide) rfl (List.mem_cons_of_mem _ fk_X8_19)
  have g39 : FG Z 39 8 4 := fg_mk F (C := RX8) (T := TX8) (N := 9) in_X8 rfl (by decide) rfl (List.mem_cons_of_mem _ fk_X8_39)
  have g49 : FG Z 49 8 6 := fg_mk F (C := RX8) (T := TX8) (N := 9) in_X8 rfl (by decide) rfl (List.mem_cons_of_mem _ fk_X8_49)
  have g56 : FG Z 56 8 7 := fg_mk F (C := RX8) (T := TX8) (N := 9) in_X8 rfl (by decide) rfl (List.mem_cons_of_mem _ fk_X8_56)
  have g60 : FG Z 60 8 8 := fg_mk F (C := RX8) (T := TX8) (N := 9) in_X8 rfl (by decide) rfl (List.mem_cons_of_mem _ fk_X8_60)
  have g140 : FG Z 140 4 8 := fg_mk F (C := RX4) (T := TX4) (N := 9) in_X4 rfl (by decide) rfl (List.mem_cons_of_mem _ fk_X8_140)
  have g154 : FG Z 154 7 2 := fg_mk F (C := RX7) (T := TX7) (N := 4) in_X7 rfl (by decide) rfl (List.mem_cons_of_mem _ fk_X8_154)
  have p128 : FP Z 128 4 3 .int := fp_mk F (C := RX4) (T := TX4) (N := 9) in_X4 tyX4_ok nmX4 rfl (by decide) rfl (List.mem_cons_of_mem _ fk_X8_128) rfl (by decide +kernel)
  obtain ⟨hO, hL, hU, hK, hS, hT, hR0⟩ := id hB
  obtain ⟨h60, ht, htk, hn, hop, hac, hopk, Cb, hC, hCb⟩ := id hO
  obtain ⟨own, en, fa, la, l1, hA, hp⟩ := id hL
  obtain ⟨s1, s2, s3, s4⟩ := id hS
  obtain ⟨S0, hS0⟩ := id hR0.1
  obtain ⟨R, Q, q, hR, hQ, hq, hok⟩ := id hR0.2
  have kb := kd_B
  have kl := kd_Log
  have ke := kd_ents
  have ks := kd_sc0 sc204
  have ks1 := kd_sc1 sc204
  have ks2 := kd_sc2 sc204
  have ks3 := kd_sc3 sc204
  have ks4 := kd_sc4 sc204
  have kt := kd_sc0 sc329
  have kt3 := kd_sc3 sc329
  have kp := kd_PT
  have kL := kd_Ls
  have cs8 := cs_scr
  have k58 := kd_458
  have k59 := kd_459
  have kr := kd_Reg
  have km := kd_marks
  have kc := kd_codes
  have k3 := kd_cols
  have k4 := kd_prows
  have kar := kd_areas
  have kow := kd_owners
  have ken := kd_ends
  have kq := kd_queue
  have kt1 := kd_sc1 sc329
  have kt2 := kd_sc2 sc329
  refine jj_iload_n F dX8_fill_0 rfl ?_
  refine jj_callSv (na := 1) F (c_X8_refuseWrongUser hu) (gl_S mk_X8_106 vw_X8_refuseWrongUser) rfl rfl rfl (by decide +kernel) ⟨Nat.le_of_ble_eq_true rfl, Nat.le_of_ble_eq_true rfl⟩ rfl rfl (Nat.le_of_ble_eq_true rfl) ⟨Nat.le_of_ble_eq_true rfl, Nat.le_of_ble_eq_true rfl⟩ dX8_fill_1 (fun M1 hp1 => ?_)
  obtain rfl := hp1.symm
  refine jj_iload_n F dX8_fill_4 rfl ?_
  refine jj_callSv (na := 1) F (c_X8_refuseWrongLayer hla) (gl_S mk_X8_110 vw_X8_refuseWrongLayer) rfl rfl rfl (by decide +kernel) ⟨Nat.le_of_ble_eq_true rfl, Nat.le_of_ble_eq_true rfl⟩ rfl rfl (Nat.le_of_ble_eq_true rfl) ⟨Nat.le_of_ble_eq_true rfl, Nat.le_of_ble_eq_true rfl⟩ dX8_fill_5 (fun M5 hp5 => ?_)
  obtain rfl := hp5.symm
  refine jj_iload F dX8_fill_8 rfl ?_
  exact jj_thrS (na := 1) F X (t_refuseWrongCell_x hw (by rw [hl]; exact hst)) (gl_S mk_X8_151 vw_X8_refuseWrongCell) rfl rfl rfl (by decide +kernel) ⟨(Nat.le_of_ble_eq_true rfl), (Nat.le_of_ble_eq_true rfl)⟩ rfl rfl (Nat.le_of_ble_eq_true rfl) ⟨(Nat.le_of_ble_eq_true rfl), (Nat.le_of_ble_eq_true rfl)⟩ dX8_fill_10 (fun M2 h => by rw [h]; exact hB)
set_option maxRecDepth 100000 in
set_option maxHeartbeats 1000000 in
theorem t_fill_c {l : Launch} {E : Ee} {M : Mm} {a : Ab} {W : Nat} (hB : RelB M a W) {u la : Nat} (hu : u < 5) (hla : la < 3) {x : Int32} {c : Nat} (hc : c < 256) (hw : wiB x (nI 1) (nI 9) = false) (hst : l.stackTraces = false) : CtT l E yX8_fill (.code yX8_fill cX8_fill 6 (some .int) :: gl) ({ frames := 7, cells := 1, slots := 6, locals := 130 } : Room) M [.ref (E.2.2 0), .int (nI u), .int (nI la), .int x, .int (nI c)] eIA (fun M2 => RelB M2 a W) := by
  refine ctT_of (L0 := [some (.ref (E.2.2 0)), some (.int (nI u)), some (.int (nI la)), some (.int x), some (.int (nI c)), none]) hst (by decide) rfl (Nat.le_of_ble_eq_true rfl) rfl ?_
  intro Z hl hE hnl F X
  subst hE
  have in_X4 : ∀ w ∈ u_ws RX4 TX4 9, w ∈ (.code yX8_fill cX8_fill 6 (some .int) :: gl) := fun w h => List.mem_cons_of_mem _ (lay_X4 w h)
  have in_X7 : ∀ w ∈ u_ws RX7 TX7 4, w ∈ (.code yX8_fill cX8_fill 6 (some .int) :: gl) := fun w h => List.mem_cons_of_mem _ (lay_X7 w h)
  have in_X8 : ∀ w ∈ u_ws RX8 TX8 9, w ∈ (.code yX8_fill cX8_fill 6 (some .int) :: gl) := fun w h => List.mem_cons_of_mem _ (lay_X8 w h)
  have g19 : FG Z 19 8 1 := fg_mk F (C := RX8) (T := TX8) (N := 9) in_X8 rfl (by decide) rfl (List.mem_cons_of_mem _ fk_X8_19)
  have g39 : FG Z 39 8 4 := fg_mk F (C := RX8) (T := TX8) (N := 9) in_X8 rfl (by decide) rfl (List.mem_cons_of_mem _ fk_X8_39)
  have g49 : FG Z 49 8 6 := fg_mk F (C := RX8) (T := TX8) (N := 9) in_X8 rfl (by decide) rfl (List.mem_cons_of_mem _ fk_X8_49)
  have g56 : FG Z 56 8 7 := fg_mk F (C := RX8) (T := TX8) (N := 9) in_X8 rfl (by decide) rfl (List.mem_cons_of_mem _ fk_X8_56)
  have g60 : FG Z 60 8 8 := fg_mk F (C := RX8) (T := TX8) (N := 9) in_X8 rfl (by decide) rfl (List.mem_cons_of_mem _ fk_X8_60)
  have g140 : FG Z 140 4 8 := fg_mk F (C := RX4) (T := TX4) (N := 9) in_X4 rfl (by decide) rfl (List.mem_cons_of_mem _ fk_X8_140)
  have g154 : FG Z 154 7 2 := fg_mk F (C := RX7) (T := TX7) (N := 4) in_X7 rfl (by decide) rfl (List.mem_cons_of_mem _ fk_X8_154)
  have p128 : FP Z 128 4 3 .int := fp_mk F (C := RX4) (T := TX4) (N := 9) in_X4 tyX4_ok nmX4 rfl (by decide) rfl (List.mem_cons_of_mem _ fk_X8_128) rfl (by decide +kernel)
  obtain ⟨hO, hL, hU, hK, hS, hT, hR0⟩ := id hB
  obtain ⟨h60, ht, htk, hn, hop, hac, hopk, Cb, hC, hCb⟩ := id hO
  obtain ⟨own, en, fa, la, l1, hA, hp⟩ := id hL
  obtain ⟨s1, s2, s3, s4⟩ := id hS
  obtain ⟨S0, hS0⟩ := id hR0.1
  obtain ⟨R, Q, q, hR, hQ, hq, hok⟩ := id hR0.2
  have kb := kd_B
  have kl := kd_Log
  have ke := kd_ents
  have ks := kd_sc0 sc204
  have ks1 := kd_sc1 sc204
  have ks2 := kd_sc2 sc204
  have ks3 := kd_sc3 sc204
  have ks4 := kd_sc4 sc204
  have kt := kd_sc0 sc329
  have kt3 := kd_sc3 sc329
  have kp := kd_PT
  have kL := kd_Ls
  have cs8 := cs_scr
  have k58 := kd_458
  have k59 := kd_459
  have kr := kd_Reg
  have km := kd_marks
  have kc := kd_codes
  have k3 := kd_cols
  have k4 := kd_prows
  have kar := kd_areas
  have kow := kd_owners
  have ken := kd_ends
  have kq := kd_queue
  have kt1 := kd_sc1 sc329
  have kt2 := kd_sc2 sc329
  refine jj_iload_n F dX8_fill_0 rfl ?_
  refine jj_callSv (na := 1) F (c_X8_refuseWrongUser hu) (gl_S mk_X8_106 vw_X8_refuseWrongUser) rfl rfl rfl (by decide +kernel) ⟨Nat.le_of_ble_eq_true rfl, Nat.le_of_ble_eq_true rfl⟩ rfl rfl (Nat.le_of_ble_eq_true rfl) ⟨Nat.le_of_ble_eq_true rfl, Nat.le_of_ble_eq_true rfl⟩ dX8_fill_1 (fun M1 hp1 => ?_)
  obtain rfl := hp1.symm
  refine jj_iload_n F dX8_fill_4 rfl ?_
  refine jj_callSv (na := 1) F (c_X8_refuseWrongLayer hla) (gl_S mk_X8_110 vw_X8_refuseWrongLayer) rfl rfl rfl (by decide +kernel) ⟨Nat.le_of_ble_eq_true rfl, Nat.le_of_ble_eq_true rfl⟩ rfl rfl (Nat.le_of_ble_eq_true rfl) ⟨Nat.le_of_ble_eq_true rfl, Nat.le_of_ble_eq_true rfl⟩ dX8_fill_5 (fun M5 hp5 => ?_)
  obtain rfl := hp5.symm
  refine jj_iload F dX8_fill_8 rfl ?_
  refine jj_callSv (na := 1) F (c_X8_refuseWrongCell hc) (gl_S mk_X8_151 vw_X8_refuseWrongCell) rfl rfl rfl (by decide +kernel) ⟨Nat.le_of_ble_eq_true rfl, Nat.le_of_ble_eq_true rfl⟩ rfl rfl (Nat.le_of_ble_eq_true rfl) ⟨Nat.le_of_ble_eq_true rfl, Nat.le_of_ble_eq_true rfl⟩ dX8_fill_10 (fun M10 hp10 => ?_)
  obtain rfl := hp10.symm
  refine jj_iload_n F dX8_fill_13 rfl ?_
  exact jj_thrS (na := 1) F X (t_refuseWrongColor_x hw (by rw [hl]; exact hst)) (gl_S mk_X8_113 vw_X8_refuseWrongColor) rfl rfl rfl (by decide +kernel) ⟨(Nat.le_of_ble_eq_true rfl), (Nat.le_of_ble_eq_true rfl)⟩ rfl rfl (Nat.le_of_ble_eq_true rfl) ⟨(Nat.le_of_ble_eq_true rfl), (Nat.le_of_ble_eq_true rfl)⟩ dX8_fill_14 (fun M2 h => by rw [h]; exact hB)
set_option maxRecDepth 100000 in
set_option maxHeartbeats 1000000 in
theorem t_fill_n {l : Launch} {E : Ee} {M : Mm} {a : Ab} {W : Nat} (hB : RelB M a W) {u la : Nat} (hu : u < 5) (hla : la < 3) {co c : Nat} (hc : c < 256) (h1 : 1 ≤ co) (h9 : co ≤ 9) (h60n : a_n a = 60) (hst : l.stackTraces = false) : CtT l E yX8_fill (.code yX8_fill cX8_fill 6 (some .int) :: gl) ({ frames := 7, cells := 1, slots := 6, locals := 130 } : Room) M [.ref (E.2.2 0), .int (nI u), .int (nI la), .int (nI co), .int (nI c)] eIS (fun M2 => RelB M2 a W) := by
  refine ctT_of (L0 := [some (.ref (E.2.2 0)), some (.int (nI u)), some (.int (nI la)), some (.int (nI co)), some (.int (nI c)), none]) hst (by decide) rfl (Nat.le_of_ble_eq_true rfl) rfl ?_
  intro Z hl hE hnl F X
  subst hE
  have in_X4 : ∀ w ∈ u_ws RX4 TX4 9, w ∈ (.code yX8_fill cX8_fill 6 (some .int) :: gl) := fun w h => List.mem_cons_of_mem _ (lay_X4 w h)
  have in_X7 : ∀ w ∈ u_ws RX7 TX7 4, w ∈ (.code yX8_fill cX8_fill 6 (some .int) :: gl) := fun w h => List.mem_cons_of_mem _ (lay_X7 w h)
  have in_X8 : ∀ w ∈ u_ws RX8 TX8 9, w ∈ (.code yX8_fill cX8_fill 6 (some .int) :: gl) := fun w h => List.mem_cons_of_mem _ (lay_X8 w h)
  have g19 : FG Z 19 8 1 := fg_mk F (C := RX8) (T := TX8) (N := 9) in_X8 rfl (by decide) rfl (List.mem_cons_of_mem _ fk_X8_19)
  have g39 : FG Z 39 8 4 := fg_mk F (C := RX8) (T := TX8) (N := 9) in_X8 rfl (by decide) rfl (List.mem_cons_of_mem _ fk_X8_39)
  have g49 : FG Z 49 8 6 := fg_mk F (C := RX8) (T := TX8) (N := 9) in_X8 rfl (by decide) rfl (List.mem_cons_of_mem _ fk_X8_49)
  have g56 : FG Z 56 8 7 := fg_mk F (C := RX8) (T := TX8) (N := 9) in_X8 rfl (by decide) rfl (List.mem_cons_of_mem _ fk_X8_56)
  have g60 : FG Z 60 8 8 := fg_mk F (C := RX8) (T := TX8) (N := 9) in_X8 rfl (by decide) rfl (List.mem_cons_of_mem _ fk_X8_60)
  have g140 : FG Z 140 4 8 := fg_mk F (C := RX4) (T := TX4) (N := 9) in_X4 rfl (by decide) rfl (List.mem_cons_of_mem _ fk_X8_140)
  have g154 : FG Z 154 7 2 := fg_mk F (C := RX7) (T := TX7) (N := 4) in_X7 rfl (by decide) rfl (List.mem_cons_of_mem _ fk_X8_154)
  have p128 : FP Z 128 4 3 .int := fp_mk F (C := RX4) (T := TX4) (N := 9) in_X4 tyX4_ok nmX4 rfl (by decide) rfl (List.mem_cons_of_mem _ fk_X8_128) rfl (by decide +kernel)
  obtain ⟨hO, hL, hU, hK, hS, hT, hR0⟩ := id hB
  obtain ⟨h60, ht, htk, hn, hop, hac, hopk, Cb, hC, hCb⟩ := id hO
  obtain ⟨own, en, fa, la, l1, hA, hp⟩ := id hL
  obtain ⟨s1, s2, s3, s4⟩ := id hS
  obtain ⟨S0, hS0⟩ := id hR0.1
  obtain ⟨R, Q, q, hR, hQ, hq, hok⟩ := id hR0.2
  have kb := kd_B
  have kl := kd_Log
  have ke := kd_ents
  have ks := kd_sc0 sc204
  have ks1 := kd_sc1 sc204
  have ks2 := kd_sc2 sc204
  have ks3 := kd_sc3 sc204
  have ks4 := kd_sc4 sc204
  have kt := kd_sc0 sc329
  have kt3 := kd_sc3 sc329
  have kp := kd_PT
  have kL := kd_Ls
  have cs8 := cs_scr
  have k58 := kd_458
  have k59 := kd_459
  have kr := kd_Reg
  have km := kd_marks
  have kc := kd_codes
  have k3 := kd_cols
  have k4 := kd_prows
  have kar := kd_areas
  have kow := kd_owners
  have ken := kd_ends
  have kq := kd_queue
  have kt1 := kd_sc1 sc329
  have kt2 := kd_sc2 sc329
  refine jj_iload_n F dX8_fill_0 rfl ?_
  refine jj_callSv (na := 1) F (c_X8_refuseWrongUser hu) (gl_S mk_X8_106 vw_X8_refuseWrongUser) rfl rfl rfl (by decide +kernel) ⟨Nat.le_of_ble_eq_true rfl, Nat.le_of_ble_eq_true rfl⟩ rfl rfl (Nat.le_of_ble_eq_true rfl) ⟨Nat.le_of_ble_eq_true rfl, Nat.le_of_ble_eq_true rfl⟩ dX8_fill_1 (fun M1 hp1 => ?_)
  obtain rfl := hp1.symm
  refine jj_iload_n F dX8_fill_4 rfl ?_
  refine jj_callSv (na := 1) F (c_X8_refuseWrongLayer hla) (gl_S mk_X8_110 vw_X8_refuseWrongLayer) rfl rfl rfl (by decide +kernel) ⟨Nat.le_of_ble_eq_true rfl, Nat.le_of_ble_eq_true rfl⟩ rfl rfl (Nat.le_of_ble_eq_true rfl) ⟨Nat.le_of_ble_eq_true rfl, Nat.le_of_ble_eq_true rfl⟩ dX8_fill_5 (fun M5 hp5 => ?_)
  obtain rfl := hp5.symm
  refine jj_iload F dX8_fill_8 rfl ?_
  refine jj_callSv (na := 1) F (c_X8_refuseWrongCell hc) (gl_S mk_X8_151 vw_X8_refuseWrongCell) rfl rfl rfl (by decide +kernel) ⟨Nat.le_of_ble_eq_true rfl, Nat.le_of_ble_eq_true rfl⟩ rfl rfl (Nat.le_of_ble_eq_true rfl) ⟨Nat.le_of_ble_eq_true rfl, Nat.le_of_ble_eq_true rfl⟩ dX8_fill_10 (fun M10 hp10 => ?_)
  obtain rfl := hp10.symm
  refine jj_iload_n F dX8_fill_13 rfl ?_
  refine jj_callSv (na := 1) F (c_X8_refuseWrongColor h1 h9) (gl_S mk_X8_113 vw_X8_refuseWrongColor) rfl rfl rfl (by decide +kernel) ⟨Nat.le_of_ble_eq_true rfl, Nat.le_of_ble_eq_true rfl⟩ rfl rfl (Nat.le_of_ble_eq_true rfl) ⟨Nat.le_of_ble_eq_true rfl, Nat.le_of_ble_eq_true rfl⟩ dX8_fill_14 (fun M14 hp14 => ?_)
  obtain rfl := hp14.symm
  refine jj_aload_n F dX8_fill_17 rfl ?_
  exact jj_thrV (na := 0) F X (t_refuseFullLog_x (n := a_n a) hn h60n (by rw [hl]; exact hst)) (gl_V mk_X8_121 vw_X8_refuseFullLog) rfl rfl rfl (by decide +kernel) ⟨(Nat.le_of_ble_eq_true rfl), (Nat.le_of_ble_eq_true rfl)⟩ kb rfl rfl rfl (Nat.le_of_ble_eq_true rfl) ⟨(Nat.le_of_ble_eq_true rfl), (Nat.le_of_ble_eq_true rfl)⟩ dX8_fill_18 (fun M2 h => by rw [h]; exact hB)
set_option maxRecDepth 100000 in
set_option maxHeartbeats 1000000 in
theorem t_undo_1 {l : Launch} {E : Ee} {M : Mm} {a : Ab} {W : Nat} (hB : RelB M a W) {x : Int32} (hw : wiB x (nI 0) (nI 4) = false) (hst : l.stackTraces = false) : CtT l E yX8_undo (.code yX8_undo cX8_undo 3 (some .int) :: gl) ({ frames := 7, cells := 1, slots := 6, locals := 130 } : Room) M [.ref (E.2.2 0), .int x] eIX (fun M2 => RelB M2 a W) := by
  refine ctT_of (L0 := [some (.ref (E.2.2 0)), some (.int x), none]) hst (by decide) rfl (Nat.le_of_ble_eq_true rfl) rfl ?_
  intro Z hl hE hnl F X
  subst hE
  have in_X8 : ∀ w ∈ u_ws RX8 TX8 9, w ∈ (.code yX8_undo cX8_undo 3 (some .int) :: gl) := fun w h => List.mem_cons_of_mem _ (lay_X8 w h)
  have g19 : FG Z 19 8 1 := fg_mk F (C := RX8) (T := TX8) (N := 9) in_X8 rfl (by decide) rfl (List.mem_cons_of_mem _ fk_X8_19)
  obtain ⟨hO, hL, hU, hK, hS, hT, hR0⟩ := id hB
  obtain ⟨h60, ht, htk, hn, hop, hac, hopk, Cb, hC, hCb⟩ := id hO
  obtain ⟨own, en, fa, la, l1, hA, hp⟩ := id hL
  obtain ⟨s1, s2, s3, s4⟩ := id hS
  obtain ⟨S0, hS0⟩ := id hR0.1
  obtain ⟨R, Q, q, hR, hQ, hq, hok⟩ := id hR0.2
  have kb := kd_B
  have kl := kd_Log
  have ke := kd_ents
  have ks := kd_sc0 sc204
  have ks1 := kd_sc1 sc204
  have ks2 := kd_sc2 sc204
  have ks3 := kd_sc3 sc204
  have ks4 := kd_sc4 sc204
  have kt := kd_sc0 sc329
  have kt3 := kd_sc3 sc329
  have kp := kd_PT
  have kL := kd_Ls
  have cs8 := cs_scr
  have k58 := kd_458
  have k59 := kd_459
  have kr := kd_Reg
  have km := kd_marks
  have kc := kd_codes
  have k3 := kd_cols
  have k4 := kd_prows
  have kar := kd_areas
  have kow := kd_owners
  have ken := kd_ends
  have kq := kd_queue
  have kt1 := kd_sc1 sc329
  have kt2 := kd_sc2 sc329
  refine jj_iload_n F dX8_undo_0 rfl ?_
  exact jj_thrS (na := 1) F X (t_refuseWrongUser_x hw (by rw [hl]; exact hst)) (gl_S mk_X8_106 vw_X8_refuseWrongUser) rfl rfl rfl (by decide +kernel) ⟨(Nat.le_of_ble_eq_true rfl), (Nat.le_of_ble_eq_true rfl)⟩ rfl rfl (Nat.le_of_ble_eq_true rfl) ⟨(Nat.le_of_ble_eq_true rfl), (Nat.le_of_ble_eq_true rfl)⟩ dX8_undo_1 (fun M2 h => by rw [h]; exact hB)
set_option maxRecDepth 100000 in
set_option maxHeartbeats 1000000 in
theorem t_undo_2 {l : Launch} {E : Ee} {M : Mm} {a : Ab} {W : Nat} (hB : RelB M a W) {u : Nat} (hu : u < 5) (hl9 : laA a (nI u) (a_n a) = none) (hst : l.stackTraces = false) : CtT l E yX8_undo (.code yX8_undo cX8_undo 3 (some .int) :: gl) ({ frames := 7, cells := 1, slots := 6, locals := 130 } : Room) M [.ref (E.2.2 0), .int (nI u)] eIS (fun M2 => RelB M2 a W) := by
  refine ctT_of (L0 := [some (.ref (E.2.2 0)), some (.int (nI u)), none]) hst (by decide) rfl (Nat.le_of_ble_eq_true rfl) rfl ?_
  intro Z hl hE hnl F X
  subst hE
  have in_X8 : ∀ w ∈ u_ws RX8 TX8 9, w ∈ (.code yX8_undo cX8_undo 3 (some .int) :: gl) := fun w h => List.mem_cons_of_mem _ (lay_X8 w h)
  have g19 : FG Z 19 8 1 := fg_mk F (C := RX8) (T := TX8) (N := 9) in_X8 rfl (by decide) rfl (List.mem_cons_of_mem _ fk_X8_19)
  obtain ⟨hO, hL, hU, hK, hS, hT, hR0⟩ := id hB
  obtain ⟨h60, ht, htk, hn, hop, hac, hopk, Cb, hC, hCb⟩ := id hO
  obtain ⟨own, en, fa, la, l1, hA, hp⟩ := id hL
  obtain ⟨s1, s2, s3, s4⟩ := id hS
  obtain ⟨S0, hS0⟩ := id hR0.1
  obtain ⟨R, Q, q, hR, hQ, hq, hok⟩ := id hR0.2
  have kb := kd_B
  have kl := kd_Log
  have ke := kd_ents
  have ks := kd_sc0 sc204
  have ks1 := kd_sc1 sc204
  have ks2 := kd_sc2 sc204
  have ks3 := kd_sc3 sc204
  have ks4 := kd_sc4 sc204
  have kt := kd_sc0 sc329
  have kt3 := kd_sc3 sc329
  have kp := kd_PT
  have kL := kd_Ls
  have cs8 := cs_scr
  have k58 := kd_458
  have k59 := kd_459
  have kr := kd_Reg
  have km := kd_marks
  have kc := kd_codes
  have k3 := kd_cols
  have k4 := kd_prows
  have kar := kd_areas
  have kow := kd_owners
  have ken := kd_ends
  have kq := kd_queue
  have kt1 := kd_sc1 sc329
  have kt2 := kd_sc2 sc329
  refine jj_iload_n F dX8_undo_0 rfl ?_
  refine jj_callSv (na := 1) F (c_X8_refuseWrongUser hu) (gl_S mk_X8_106 vw_X8_refuseWrongUser) rfl rfl rfl (by decide +kernel) ⟨Nat.le_of_ble_eq_true rfl, Nat.le_of_ble_eq_true rfl⟩ rfl rfl (Nat.le_of_ble_eq_true rfl) ⟨Nat.le_of_ble_eq_true rfl, Nat.le_of_ble_eq_true rfl⟩ dX8_undo_1 (fun M1 hp1 => ?_)
  obtain rfl := hp1.symm
  refine jj_aload_n F dX8_undo_4 rfl ?_
  refine jj_getr F g19 (by assumption) (by rfl) dX8_undo_5 ?_
  refine jj_iload_n F dX8_undo_8 rfl ?_
  refine jj_callVi (na := 1) F (c_X2_latestActive (ow := nI u) hn h60) (gl_V mk_X8_168 vw_X2_latestActive) rfl rfl rfl (by decide +kernel) ⟨Nat.le_of_ble_eq_true rfl, Nat.le_of_ble_eq_true rfl⟩ (by assumption) rfl rfl rfl (Nat.le_of_ble_eq_true rfl) ⟨Nat.le_of_ble_eq_true rfl, Nat.le_of_ble_eq_true rfl⟩ dX8_undo_9 (fun r9 M9 hp9 => ?_)
  obtain ⟨rfl, rfl⟩ := symm2 hp9
  rw [show ltF M (nI u) (a_n a) = -1 by rw [lt_eq hop hac (Nat.le_refl _), hl9]; rfl]
  refine jj_istore_n F dX8_undo_12 (by rw [hnl]; decide) ?_
  dsimp only [lq_st, lq_clr, lq_no]
  refine jj_aload_n F dX8_undo_13 rfl ?_
  refine jj_getr F g19 (by assumption) (by rfl) dX8_undo_14 ?_
  refine jj_iload_n F dX8_undo_17 rfl ?_
  refine jj_callVi (na := 1) F (c_X2_contains (x := -1)) (gl_V mk_X8_171 vw_X2_contains) rfl rfl rfl (by decide +kernel) ⟨Nat.le_of_ble_eq_true rfl, Nat.le_of_ble_eq_true rfl⟩ (by assumption) rfl rfl rfl (Nat.le_of_ble_eq_true rfl) ⟨Nat.le_of_ble_eq_true rfl, Nat.le_of_ble_eq_true rfl⟩ dX8_undo_18 (fun r18 M18 hp18 => ?_)
  obtain ⟨rfl, rfl⟩ := symm2 hp18
  refine jj_if_ne F (tgt := 34) dX8_undo_21 (by decide) (fun h9 => absurd h9 (fun z => z (by rfl))) (fun _ => ?_)
  exact jj_throwS F X (ik := 86) (is := 175) (ic := 90) (text := "the user has no active operation") (by decide +kernel) xk_IS xi_IS xa_IS (by decide +kernel) dX8_undo_24 dX8_undo_27 dX8_undo_28 dX8_undo_30 dX8_undo_33 (Nat.le_of_ble_eq_true rfl) (Nat.le_of_ble_eq_true rfl) (Nat.le_of_ble_eq_true rfl) (Nat.le_of_ble_eq_true rfl) hB
set_option maxRecDepth 100000 in
set_option maxHeartbeats 1000000 in
theorem t_redo_1 {l : Launch} {E : Ee} {M : Mm} {a : Ab} {W : Nat} (hB : RelB M a W) {x : Int32} (hw : wiB x (nI 0) (nI 4) = false) (hst : l.stackTraces = false) : CtT l E yX8_redo (.code yX8_redo cX8_redo 3 (some .int) :: gl) ({ frames := 7, cells := 1, slots := 6, locals := 130 } : Room) M [.ref (E.2.2 0), .int x] eIX (fun M2 => RelB M2 a W) := by
  refine ctT_of (L0 := [some (.ref (E.2.2 0)), some (.int x), none]) hst (by decide) rfl (Nat.le_of_ble_eq_true rfl) rfl ?_
  intro Z hl hE hnl F X
  subst hE
  have in_X8 : ∀ w ∈ u_ws RX8 TX8 9, w ∈ (.code yX8_redo cX8_redo 3 (some .int) :: gl) := fun w h => List.mem_cons_of_mem _ (lay_X8 w h)
  have g19 : FG Z 19 8 1 := fg_mk F (C := RX8) (T := TX8) (N := 9) in_X8 rfl (by decide) rfl (List.mem_cons_of_mem _ fk_X8_19)
  obtain ⟨hO, hL, hU, hK, hS, hT, hR0⟩ := id hB
  obtain ⟨h60, ht, htk, hn, hop, hac, hopk, Cb, hC, hCb⟩ := id hO
  obtain ⟨own, en, fa, la, l1, hA, hp⟩ := id hL
  obtain ⟨s1, s2, s3, s4⟩ := id hS
  obtain ⟨S0, hS0⟩ := id hR0.1
  obtain ⟨R, Q, q, hR, hQ, hq, hok⟩ := id hR0.2
  have kb := kd_B
  have kl := kd_Log
  have ke := kd_ents
  have ks := kd_sc0 sc204
  have ks1 := kd_sc1 sc204
  have ks2 := kd_sc2 sc204
  have ks3 := kd_sc3 sc204
  have ks4 := kd_sc4 sc204
  have kt := kd_sc0 sc329
  have kt3 := kd_sc3 sc329
  have kp := kd_PT
  have kL := kd_Ls
  have cs8 := cs_scr
  have k58 := kd_458
  have k59 := kd_459
  have kr := kd_Reg
  have km := kd_marks
  have kc := kd_codes
  have k3 := kd_cols
  have k4 := kd_prows
  have kar := kd_areas
  have kow := kd_owners
  have ken := kd_ends
  have kq := kd_queue
  have kt1 := kd_sc1 sc329
  have kt2 := kd_sc2 sc329
  refine jj_iload_n F dX8_redo_0 rfl ?_
  exact jj_thrS (na := 1) F X (t_refuseWrongUser_x hw (by rw [hl]; exact hst)) (gl_S mk_X8_106 vw_X8_refuseWrongUser) rfl rfl rfl (by decide +kernel) ⟨(Nat.le_of_ble_eq_true rfl), (Nat.le_of_ble_eq_true rfl)⟩ rfl rfl (Nat.le_of_ble_eq_true rfl) ⟨(Nat.le_of_ble_eq_true rfl), (Nat.le_of_ble_eq_true rfl)⟩ dX8_redo_1 (fun M2 h => by rw [h]; exact hB)
set_option maxRecDepth 100000 in
set_option maxHeartbeats 1000000 in
theorem t_redo_2 {l : Launch} {E : Ee} {M : Mm} {a : Ab} {W : Nat} (hB : RelB M a W) {u : Nat} (hWW : W < 1000) (hu : u < 5) (hl9 : rdA a (nI u) (a_n a) = none) (hst : l.stackTraces = false) : CtT l E yX8_redo (.code yX8_redo cX8_redo 3 (some .int) :: gl) ({ frames := 7, cells := 1, slots := 6, locals := 130 } : Room) M [.ref (E.2.2 0), .int (nI u)] eIS (fun M2 => RelB M2 a W) := by
  refine ctT_of (L0 := [some (.ref (E.2.2 0)), some (.int (nI u)), none]) hst (by decide) rfl (Nat.le_of_ble_eq_true rfl) rfl ?_
  intro Z hl hE hnl F X
  subst hE
  have in_X8 : ∀ w ∈ u_ws RX8 TX8 9, w ∈ (.code yX8_redo cX8_redo 3 (some .int) :: gl) := fun w h => List.mem_cons_of_mem _ (lay_X8 w h)
  have g19 : FG Z 19 8 1 := fg_mk F (C := RX8) (T := TX8) (N := 9) in_X8 rfl (by decide) rfl (List.mem_cons_of_mem _ fk_X8_19)
  obtain ⟨hO, hL, hU, hK, hS, hT, hR0⟩ := id hB
  obtain ⟨h60, ht, htk, hn, hop, hac, hopk, Cb, hC, hCb⟩ := id hO
  obtain ⟨own, en, fa, la, l1, hA, hp⟩ := id hL
  obtain ⟨s1, s2, s3, s4⟩ := id hS
  obtain ⟨S0, hS0⟩ := id hR0.1
  obtain ⟨R, Q, q, hR, hQ, hq, hok⟩ := id hR0.2
  have kb := kd_B
  have kl := kd_Log
  have ke := kd_ents
  have ks := kd_sc0 sc204
  have ks1 := kd_sc1 sc204
  have ks2 := kd_sc2 sc204
  have ks3 := kd_sc3 sc204
  have ks4 := kd_sc4 sc204
  have kt := kd_sc0 sc329
  have kt3 := kd_sc3 sc329
  have kp := kd_PT
  have kL := kd_Ls
  have cs8 := cs_scr
  have k58 := kd_458
  have k59 := kd_459
  have kr := kd_Reg
  have km := kd_marks
  have kc := kd_codes
  have k3 := kd_cols
  have k4 := kd_prows
  have kar := kd_areas
  have kow := kd_owners
  have ken := kd_ends
  have kq := kd_queue
  have kt1 := kd_sc1 sc329
  have kt2 := kd_sc2 sc329
  obtain ⟨ub, w0, hu1, hu2, hu3, hu4⟩ := id hU
  refine jj_iload_n F dX8_redo_0 rfl ?_
  refine jj_callSv (na := 1) F (c_X8_refuseWrongUser hu) (gl_S mk_X8_106 vw_X8_refuseWrongUser) rfl rfl rfl (by decide +kernel) ⟨Nat.le_of_ble_eq_true rfl, Nat.le_of_ble_eq_true rfl⟩ rfl rfl (Nat.le_of_ble_eq_true rfl) ⟨Nat.le_of_ble_eq_true rfl, Nat.le_of_ble_eq_true rfl⟩ dX8_redo_1 (fun M1 hp1 => ?_)
  obtain rfl := hp1.symm
  refine jj_aload_n F dX8_redo_4 rfl ?_
  refine jj_getr F g19 (by assumption) (by rfl) dX8_redo_5 ?_
  refine jj_iload_n F dX8_redo_8 rfl ?_
  refine jj_callVi (na := 1) F (c_X2_lastUndone (ow := nI u) hn h60) (gl_V mk_X8_180 vw_X2_lastUndone) rfl rfl rfl (by decide +kernel) ⟨Nat.le_of_ble_eq_true rfl, Nat.le_of_ble_eq_true rfl⟩ (by assumption) rfl rfl rfl (Nat.le_of_ble_eq_true rfl) ⟨Nat.le_of_ble_eq_true rfl, Nat.le_of_ble_eq_true rfl⟩ dX8_redo_9 (fun r9 M9 hp9 => ?_)
  obtain ⟨rfl, rfl⟩ := symm2 hp9
  rw [show (luF M (nI u) (a_n a)).1 = -1 by rw [lu_eq hop (by omega) hu3 hu4 (Nat.le_refl _), hl9]; rfl]
  refine jj_istore_n F dX8_redo_12 (by rw [hnl]; decide) ?_
  dsimp only [lq_st, lq_clr, lq_no]
  refine jj_aload_n F dX8_redo_13 rfl ?_
  refine jj_getr F g19 (by assumption) (by rfl) dX8_redo_14 ?_
  refine jj_iload_n F dX8_redo_17 rfl ?_
  refine jj_callVi (na := 1) F (c_X2_contains (x := -1)) (gl_V mk_X8_171 vw_X2_contains) rfl rfl rfl (by decide +kernel) ⟨Nat.le_of_ble_eq_true rfl, Nat.le_of_ble_eq_true rfl⟩ (by assumption) rfl rfl rfl (Nat.le_of_ble_eq_true rfl) ⟨Nat.le_of_ble_eq_true rfl, Nat.le_of_ble_eq_true rfl⟩ dX8_redo_18 (fun r18 M18 hp18 => ?_)
  obtain ⟨rfl, rfl⟩ := symm2 hp18
  refine jj_if_ne F (tgt := 34) dX8_redo_21 (by decide) (fun h9 => absurd h9 (fun z => z (by rfl))) (fun _ => ?_)
  exact jj_throwS F X (ik := 86) (is := 183) (ic := 90) (text := "the user has no operation that can be redone") (by decide +kernel) xk_IS xi_IS xa_IS (by decide +kernel) dX8_redo_24 dX8_redo_27 dX8_redo_28 dX8_redo_30 dX8_redo_33 (Nat.le_of_ble_eq_true rfl) (Nat.le_of_ble_eq_true rfl) (Nat.le_of_ble_eq_true rfl) (Nat.le_of_ble_eq_true rfl) hB
set_option maxRecDepth 100000 in
set_option maxHeartbeats 1000000 in
theorem t_lease_u {l : Launch} {E : Ee} {M : Mm} {a : Ab} {W : Nat} (hB : RelB M a W) {x y z w : Int32} (hw : wiB x (nI 0) (nI 4) = false) (hst : l.stackTraces = false) : CtT l E yX8_lease (.code yX8_lease cX8_lease 6 (some .int) :: gl) ({ frames := 7, cells := 1, slots := 6, locals := 130 } : Room) M [.ref (E.2.2 0), .int x, .int y, .int z, .int w] eIX (fun M2 => RelB M2 a W) := by
  refine ctT_of (L0 := [some (.ref (E.2.2 0)), some (.int x), some (.int y), some (.int z), some (.int w), none]) hst (by decide) rfl (Nat.le_of_ble_eq_true rfl) rfl ?_
  intro Z hl hE hnl F X
  subst hE
  have in_X1 : ∀ w ∈ u_ws RX1 TX1 3, w ∈ (.code yX8_lease cX8_lease 6 (some .int) :: gl) := fun w h => List.mem_cons_of_mem _ (lay_X1 w h)
  have in_X8 : ∀ w ∈ u_ws RX8 TX8 9, w ∈ (.code yX8_lease cX8_lease 6 (some .int) :: gl) := fun w h => List.mem_cons_of_mem _ (lay_X8 w h)
  have g26 : FG Z 26 8 2 := fg_mk F (C := RX8) (T := TX8) (N := 9) in_X8 rfl (by decide) rfl (List.mem_cons_of_mem _ fk_X8_26)
  have g56 : FG Z 56 8 7 := fg_mk F (C := RX8) (T := TX8) (N := 9) in_X8 rfl (by decide) rfl (List.mem_cons_of_mem _ fk_X8_56)
  have g60 : FG Z 60 8 8 := fg_mk F (C := RX8) (T := TX8) (N := 9) in_X8 rfl (by decide) rfl (List.mem_cons_of_mem _ fk_X8_60)
  have g204 : FG Z 204 1 0 := fg_mk F (C := RX1) (T := TX1) (N := 3) in_X1 rfl (by decide) rfl (List.mem_cons_of_mem _ fk_X8_204)
  obtain ⟨hO, hL, hU, hK, hS, hT, hR0⟩ := id hB
  obtain ⟨h60, ht, htk, hn, hop, hac, hopk, Cb, hC, hCb⟩ := id hO
  obtain ⟨own, en, fa, la, l1, hA, hp⟩ := id hL
  obtain ⟨s1, s2, s3, s4⟩ := id hS
  obtain ⟨S0, hS0⟩ := id hR0.1
  obtain ⟨R, Q, q, hR, hQ, hq, hok⟩ := id hR0.2
  have kb := kd_B
  have kl := kd_Log
  have ke := kd_ents
  have ks := kd_sc0 sc204
  have ks1 := kd_sc1 sc204
  have ks2 := kd_sc2 sc204
  have ks3 := kd_sc3 sc204
  have ks4 := kd_sc4 sc204
  have kt := kd_sc0 sc329
  have kt3 := kd_sc3 sc329
  have kp := kd_PT
  have kL := kd_Ls
  have cs8 := cs_scr
  have k58 := kd_458
  have k59 := kd_459
  have kr := kd_Reg
  have km := kd_marks
  have kc := kd_codes
  have k3 := kd_cols
  have k4 := kd_prows
  have kar := kd_areas
  have kow := kd_owners
  have ken := kd_ends
  have kq := kd_queue
  have kt1 := kd_sc1 sc329
  have kt2 := kd_sc2 sc329
  refine jj_iload_n F dX8_lease_0 rfl ?_
  exact jj_thrS (na := 1) F X (t_refuseWrongUser_x hw (by rw [hl]; exact hst)) (gl_S mk_X8_106 vw_X8_refuseWrongUser) rfl rfl rfl (by decide +kernel) ⟨(Nat.le_of_ble_eq_true rfl), (Nat.le_of_ble_eq_true rfl)⟩ rfl rfl (Nat.le_of_ble_eq_true rfl) ⟨(Nat.le_of_ble_eq_true rfl), (Nat.le_of_ble_eq_true rfl)⟩ dX8_lease_1 (fun M2 h => by rw [h]; exact hB)
set_option maxRecDepth 100000 in
set_option maxHeartbeats 1000000 in
theorem t_lease_f {l : Launch} {E : Ee} {M : Mm} {a : Ab} {W : Nat} (hB : RelB M a W) {u : Nat} {x z w : Int32} (hu : u < 5) (hw : wiB x (nI 0) (nI 255) = false) (hst : l.stackTraces = false) : CtT l E yX8_lease (.code yX8_lease cX8_lease 6 (some .int) :: gl) ({ frames := 7, cells := 1, slots := 6, locals := 130 } : Room) M [.ref (E.2.2 0), .int (nI u), .int x, .int z, .int w] eIX (fun M2 => RelB M2 a W) := by
  refine ctT_of (L0 := [some (.ref (E.2.2 0)), some (.int (nI u)), some (.int x), some (.int z), some (.int w), none]) hst (by decide) rfl (Nat.le_of_ble_eq_true rfl) rfl ?_
  intro Z hl hE hnl F X
  subst hE
  have in_X1 : ∀ w ∈ u_ws RX1 TX1 3, w ∈ (.code yX8_lease cX8_lease 6 (some .int) :: gl) := fun w h => List.mem_cons_of_mem _ (lay_X1 w h)
  have in_X8 : ∀ w ∈ u_ws RX8 TX8 9, w ∈ (.code yX8_lease cX8_lease 6 (some .int) :: gl) := fun w h => List.mem_cons_of_mem _ (lay_X8 w h)
  have g26 : FG Z 26 8 2 := fg_mk F (C := RX8) (T := TX8) (N := 9) in_X8 rfl (by decide) rfl (List.mem_cons_of_mem _ fk_X8_26)
  have g56 : FG Z 56 8 7 := fg_mk F (C := RX8) (T := TX8) (N := 9) in_X8 rfl (by decide) rfl (List.mem_cons_of_mem _ fk_X8_56)
  have g60 : FG Z 60 8 8 := fg_mk F (C := RX8) (T := TX8) (N := 9) in_X8 rfl (by decide) rfl (List.mem_cons_of_mem _ fk_X8_60)
  have g204 : FG Z 204 1 0 := fg_mk F (C := RX1) (T := TX1) (N := 3) in_X1 rfl (by decide) rfl (List.mem_cons_of_mem _ fk_X8_204)
  obtain ⟨hO, hL, hU, hK, hS, hT, hR0⟩ := id hB
  obtain ⟨h60, ht, htk, hn, hop, hac, hopk, Cb, hC, hCb⟩ := id hO
  obtain ⟨own, en, fa, la, l1, hA, hp⟩ := id hL
  obtain ⟨s1, s2, s3, s4⟩ := id hS
  obtain ⟨S0, hS0⟩ := id hR0.1
  obtain ⟨R, Q, q, hR, hQ, hq, hok⟩ := id hR0.2
  have kb := kd_B
  have kl := kd_Log
  have ke := kd_ents
  have ks := kd_sc0 sc204
  have ks1 := kd_sc1 sc204
  have ks2 := kd_sc2 sc204
  have ks3 := kd_sc3 sc204
  have ks4 := kd_sc4 sc204
  have kt := kd_sc0 sc329
  have kt3 := kd_sc3 sc329
  have kp := kd_PT
  have kL := kd_Ls
  have cs8 := cs_scr
  have k58 := kd_458
  have k59 := kd_459
  have kr := kd_Reg
  have km := kd_marks
  have kc := kd_codes
  have k3 := kd_cols
  have k4 := kd_prows
  have kar := kd_areas
  have kow := kd_owners
  have ken := kd_ends
  have kq := kd_queue
  have kt1 := kd_sc1 sc329
  have kt2 := kd_sc2 sc329
  refine jj_iload_n F dX8_lease_0 rfl ?_
  refine jj_callSv (na := 1) F (c_X8_refuseWrongUser hu) (gl_S mk_X8_106 vw_X8_refuseWrongUser) rfl rfl rfl (by decide +kernel) ⟨Nat.le_of_ble_eq_true rfl, Nat.le_of_ble_eq_true rfl⟩ rfl rfl (Nat.le_of_ble_eq_true rfl) ⟨Nat.le_of_ble_eq_true rfl, Nat.le_of_ble_eq_true rfl⟩ dX8_lease_1 (fun M1 hp1 => ?_)
  obtain rfl := hp1.symm
  refine jj_iload_n F dX8_lease_4 rfl ?_
  exact jj_thrS (na := 1) F X (t_refuseWrongCell_x hw (by rw [hl]; exact hst)) (gl_S mk_X8_151 vw_X8_refuseWrongCell) rfl rfl rfl (by decide +kernel) ⟨(Nat.le_of_ble_eq_true rfl), (Nat.le_of_ble_eq_true rfl)⟩ rfl rfl (Nat.le_of_ble_eq_true rfl) ⟨(Nat.le_of_ble_eq_true rfl), (Nat.le_of_ble_eq_true rfl)⟩ dX8_lease_5 (fun M2 h => by rw [h]; exact hB)
set_option maxRecDepth 100000 in
set_option maxHeartbeats 1000000 in
theorem t_lease_g {l : Launch} {E : Ee} {M : Mm} {a : Ab} {W : Nat} (hB : RelB M a W) {u f : Nat} {x w : Int32} (hu : u < 5) (hf : f < 256) (hw : wiB x (nI 0) (nI 255) = false) (hst : l.stackTraces = false) : CtT l E yX8_lease (.code yX8_lease cX8_lease 6 (some .int) :: gl) ({ frames := 7, cells := 1, slots := 6, locals := 130 } : Room) M [.ref (E.2.2 0), .int (nI u), .int (nI f), .int x, .int w] eIX (fun M2 => RelB M2 a W) := by
  refine ctT_of (L0 := [some (.ref (E.2.2 0)), some (.int (nI u)), some (.int (nI f)), some (.int x), some (.int w), none]) hst (by decide) rfl (Nat.le_of_ble_eq_true rfl) rfl ?_
  intro Z hl hE hnl F X
  subst hE
  have in_X1 : ∀ w ∈ u_ws RX1 TX1 3, w ∈ (.code yX8_lease cX8_lease 6 (some .int) :: gl) := fun w h => List.mem_cons_of_mem _ (lay_X1 w h)
  have in_X8 : ∀ w ∈ u_ws RX8 TX8 9, w ∈ (.code yX8_lease cX8_lease 6 (some .int) :: gl) := fun w h => List.mem_cons_of_mem _ (lay_X8 w h)
  have g26 : FG Z 26 8 2 := fg_mk F (C := RX8) (T := TX8) (N := 9) in_X8 rfl (by decide) rfl (List.mem_cons_of_mem _ fk_X8_26)
  have g56 : FG Z 56 8 7 := fg_mk F (C := RX8) (T := TX8) (N := 9) in_X8 rfl (by decide) rfl (List.mem_cons_of_mem _ fk_X8_56)
  have g60 : FG Z 60 8 8 := fg_mk F (C := RX8) (T := TX8) (N := 9) in_X8 rfl (by decide) rfl (List.mem_cons_of_mem _ fk_X8_60)
  have g204 : FG Z 204 1 0 := fg_mk F (C := RX1) (T := TX1) (N := 3) in_X1 rfl (by decide) rfl (List.mem_cons_of_mem _ fk_X8_204)
  obtain ⟨hO, hL, hU, hK, hS, hT, hR0⟩ := id hB
  obtain ⟨h60, ht, htk, hn, hop, hac, hopk, Cb, hC, hCb⟩ := id hO
  obtain ⟨own, en, fa, la, l1, hA, hp⟩ := id hL
  obtain ⟨s1, s2, s3, s4⟩ := id hS
  obtain ⟨S0, hS0⟩ := id hR0.1
  obtain ⟨R, Q, q, hR, hQ, hq, hok⟩ := id hR0.2
  have kb := kd_B
  have kl := kd_Log
  have ke := kd_ents
  have ks := kd_sc0 sc204
  have ks1 := kd_sc1 sc204
  have ks2 := kd_sc2 sc204
  have ks3 := kd_sc3 sc204
  have ks4 := kd_sc4 sc204
  have kt := kd_sc0 sc329
  have kt3 := kd_sc3 sc329
  have kp := kd_PT
  have kL := kd_Ls
  have cs8 := cs_scr
  have k58 := kd_458
  have k59 := kd_459
  have kr := kd_Reg
  have km := kd_marks
  have kc := kd_codes
  have k3 := kd_cols
  have k4 := kd_prows
  have kar := kd_areas
  have kow := kd_owners
  have ken := kd_ends
  have kq := kd_queue
  have kt1 := kd_sc1 sc329
  have kt2 := kd_sc2 sc329
  refine jj_iload_n F dX8_lease_0 rfl ?_
  refine jj_callSv (na := 1) F (c_X8_refuseWrongUser hu) (gl_S mk_X8_106 vw_X8_refuseWrongUser) rfl rfl rfl (by decide +kernel) ⟨Nat.le_of_ble_eq_true rfl, Nat.le_of_ble_eq_true rfl⟩ rfl rfl (Nat.le_of_ble_eq_true rfl) ⟨Nat.le_of_ble_eq_true rfl, Nat.le_of_ble_eq_true rfl⟩ dX8_lease_1 (fun M1 hp1 => ?_)
  obtain rfl := hp1.symm
  refine jj_iload_n F dX8_lease_4 rfl ?_
  refine jj_callSv (na := 1) F (c_X8_refuseWrongCell hf) (gl_S mk_X8_151 vw_X8_refuseWrongCell) rfl rfl rfl (by decide +kernel) ⟨Nat.le_of_ble_eq_true rfl, Nat.le_of_ble_eq_true rfl⟩ rfl rfl (Nat.le_of_ble_eq_true rfl) ⟨Nat.le_of_ble_eq_true rfl, Nat.le_of_ble_eq_true rfl⟩ dX8_lease_5 (fun M5 hp5 => ?_)
  obtain rfl := hp5.symm
  refine jj_iload_n F dX8_lease_8 rfl ?_
  exact jj_thrS (na := 1) F X (t_refuseWrongCell_x hw (by rw [hl]; exact hst)) (gl_S mk_X8_151 vw_X8_refuseWrongCell) rfl rfl rfl (by decide +kernel) ⟨(Nat.le_of_ble_eq_true rfl), (Nat.le_of_ble_eq_true rfl)⟩ rfl rfl (Nat.le_of_ble_eq_true rfl) ⟨(Nat.le_of_ble_eq_true rfl), (Nat.le_of_ble_eq_true rfl)⟩ dX8_lease_9 (fun M2 h => by rw [h]; exact hB)
set_option maxRecDepth 100000 in
set_option maxHeartbeats 1000000 in
theorem t_lease_t {l : Launch} {E : Ee} {M : Mm} {a : Ab} {W : Nat} (hB : RelB M a W) {u f g : Nat} {x : Int32} (hu : u < 5) (hf : f < 256) (hg : g < 256) (hw : wiB x (nI 1) (nI 999) = false) (hst : l.stackTraces = false) : CtT l E yX8_lease (.code yX8_lease cX8_lease 6 (some .int) :: gl) ({ frames := 7, cells := 1, slots := 6, locals := 130 } : Room) M [.ref (E.2.2 0), .int (nI u), .int (nI f), .int (nI g), .int x] eIA (fun M2 => RelB M2 a W) := by
  refine ctT_of (L0 := [some (.ref (E.2.2 0)), some (.int (nI u)), some (.int (nI f)), some (.int (nI g)), some (.int x), none]) hst (by decide) rfl (Nat.le_of_ble_eq_true rfl) rfl ?_
  intro Z hl hE hnl F X
  subst hE
  have in_X1 : ∀ w ∈ u_ws RX1 TX1 3, w ∈ (.code yX8_lease cX8_lease 6 (some .int) :: gl) := fun w h => List.mem_cons_of_mem _ (lay_X1 w h)
  have in_X8 : ∀ w ∈ u_ws RX8 TX8 9, w ∈ (.code yX8_lease cX8_lease 6 (some .int) :: gl) := fun w h => List.mem_cons_of_mem _ (lay_X8 w h)
  have g26 : FG Z 26 8 2 := fg_mk F (C := RX8) (T := TX8) (N := 9) in_X8 rfl (by decide) rfl (List.mem_cons_of_mem _ fk_X8_26)
  have g56 : FG Z 56 8 7 := fg_mk F (C := RX8) (T := TX8) (N := 9) in_X8 rfl (by decide) rfl (List.mem_cons_of_mem _ fk_X8_56)
  have g60 : FG Z 60 8 8 := fg_mk F (C := RX8) (T := TX8) (N := 9) in_X8 rfl (by decide) rfl (List.mem_cons_of_mem _ fk_X8_60)
  have g204 : FG Z 204 1 0 := fg_mk F (C := RX1) (T := TX1) (N := 3) in_X1 rfl (by decide) rfl (List.mem_cons_of_mem _ fk_X8_204)
  obtain ⟨hO, hL, hU, hK, hS, hT, hR0⟩ := id hB
  obtain ⟨h60, ht, htk, hn, hop, hac, hopk, Cb, hC, hCb⟩ := id hO
  obtain ⟨own, en, fa, la, l1, hA, hp⟩ := id hL
  obtain ⟨s1, s2, s3, s4⟩ := id hS
  obtain ⟨S0, hS0⟩ := id hR0.1
  obtain ⟨R, Q, q, hR, hQ, hq, hok⟩ := id hR0.2
  have kb := kd_B
  have kl := kd_Log
  have ke := kd_ents
  have ks := kd_sc0 sc204
  have ks1 := kd_sc1 sc204
  have ks2 := kd_sc2 sc204
  have ks3 := kd_sc3 sc204
  have ks4 := kd_sc4 sc204
  have kt := kd_sc0 sc329
  have kt3 := kd_sc3 sc329
  have kp := kd_PT
  have kL := kd_Ls
  have cs8 := cs_scr
  have k58 := kd_458
  have k59 := kd_459
  have kr := kd_Reg
  have km := kd_marks
  have kc := kd_codes
  have k3 := kd_cols
  have k4 := kd_prows
  have kar := kd_areas
  have kow := kd_owners
  have ken := kd_ends
  have kq := kd_queue
  have kt1 := kd_sc1 sc329
  have kt2 := kd_sc2 sc329
  refine jj_iload_n F dX8_lease_0 rfl ?_
  refine jj_callSv (na := 1) F (c_X8_refuseWrongUser hu) (gl_S mk_X8_106 vw_X8_refuseWrongUser) rfl rfl rfl (by decide +kernel) ⟨Nat.le_of_ble_eq_true rfl, Nat.le_of_ble_eq_true rfl⟩ rfl rfl (Nat.le_of_ble_eq_true rfl) ⟨Nat.le_of_ble_eq_true rfl, Nat.le_of_ble_eq_true rfl⟩ dX8_lease_1 (fun M1 hp1 => ?_)
  obtain rfl := hp1.symm
  refine jj_iload_n F dX8_lease_4 rfl ?_
  refine jj_callSv (na := 1) F (c_X8_refuseWrongCell hf) (gl_S mk_X8_151 vw_X8_refuseWrongCell) rfl rfl rfl (by decide +kernel) ⟨Nat.le_of_ble_eq_true rfl, Nat.le_of_ble_eq_true rfl⟩ rfl rfl (Nat.le_of_ble_eq_true rfl) ⟨Nat.le_of_ble_eq_true rfl, Nat.le_of_ble_eq_true rfl⟩ dX8_lease_5 (fun M5 hp5 => ?_)
  obtain rfl := hp5.symm
  refine jj_iload_n F dX8_lease_8 rfl ?_
  refine jj_callSv (na := 1) F (c_X8_refuseWrongCell hg) (gl_S mk_X8_151 vw_X8_refuseWrongCell) rfl rfl rfl (by decide +kernel) ⟨Nat.le_of_ble_eq_true rfl, Nat.le_of_ble_eq_true rfl⟩ rfl rfl (Nat.le_of_ble_eq_true rfl) ⟨Nat.le_of_ble_eq_true rfl, Nat.le_of_ble_eq_true rfl⟩ dX8_lease_9 (fun M9 hp9 => ?_)
  obtain rfl := hp9.symm
  refine jj_iload F dX8_lease_12 rfl ?_
  refine jj_iconst F (v := nI 1) dX8_lease_14 (by decide) ?_
  refine jj_icmp_lt F (tgt := 26) dX8_lease_15 (by decide) (fun h15 => ?_) (fun h15 => ?_)
  · exact jj_throwS F X (ik := 78) (is := 188) (ic := 82) (text := "ticks is not 1 to 999") (by decide +kernel) xk_IA xi_IA xa_IA (by decide +kernel) dX8_lease_26 dX8_lease_29 dX8_lease_30 dX8_lease_32 dX8_lease_35 (Nat.le_of_ble_eq_true rfl) (Nat.le_of_ble_eq_true rfl) (Nat.le_of_ble_eq_true rfl) (Nat.le_of_ble_eq_true rfl) hB
  · refine jj_iload F dX8_lease_18 rfl ?_
    refine jj_sipush F (v := nI 999) dX8_lease_20 (by decide) ?_
    refine jj_icmp_le F (tgt := 36) dX8_lease_23 (by decide) (fun h9 => absurd h9 (wi_nle hw h15)) (fun _ => ?_)
    exact jj_throwS F X (ik := 78) (is := 188) (ic := 82) (text := "ticks is not 1 to 999") (by decide +kernel) xk_IA xi_IA xa_IA (by decide +kernel) dX8_lease_26 dX8_lease_29 dX8_lease_30 dX8_lease_32 dX8_lease_35 (Nat.le_of_ble_eq_true rfl) (Nat.le_of_ble_eq_true rfl) (Nat.le_of_ble_eq_true rfl) (Nat.le_of_ble_eq_true rfl) hB
set_option maxRecDepth 100000 in
set_option maxHeartbeats 1000000 in
theorem t_release_1 {l : Launch} {E : Ee} {M : Mm} {a : Ab} {W : Nat} (hB : RelB M a W) {x : Int32} (hw : wiB x (nI 0) (nI 4) = false) (hst : l.stackTraces = false) : CtT l E yX8_release (.code yX8_release cX8_release 2 (some .int) :: gl) ({ frames := 7, cells := 1, slots := 6, locals := 130 } : Room) M [.ref (E.2.2 0), .int x] eIX (fun M2 => RelB M2 a W) := by
  refine ctT_of (L0 := [some (.ref (E.2.2 0)), some (.int x)]) hst (by decide) rfl (Nat.le_of_ble_eq_true rfl) rfl ?_
  intro Z hl hE hnl F X
  subst hE
  have in_X8 : ∀ w ∈ u_ws RX8 TX8 9, w ∈ (.code yX8_release cX8_release 2 (some .int) :: gl) := fun w h => List.mem_cons_of_mem _ (lay_X8 w h)
  have g26 : FG Z 26 8 2 := fg_mk F (C := RX8) (T := TX8) (N := 9) in_X8 rfl (by decide) rfl (List.mem_cons_of_mem _ fk_X8_26)
  have g60 : FG Z 60 8 8 := fg_mk F (C := RX8) (T := TX8) (N := 9) in_X8 rfl (by decide) rfl (List.mem_cons_of_mem _ fk_X8_60)
  obtain ⟨hO, hL, hU, hK, hS, hT, hR0⟩ := id hB
  obtain ⟨h60, ht, htk, hn, hop, hac, hopk, Cb, hC, hCb⟩ := id hO
  obtain ⟨own, en, fa, la, l1, hA, hp⟩ := id hL
  obtain ⟨s1, s2, s3, s4⟩ := id hS
  obtain ⟨S0, hS0⟩ := id hR0.1
  obtain ⟨R, Q, q, hR, hQ, hq, hok⟩ := id hR0.2
  have kb := kd_B
  have kl := kd_Log
  have ke := kd_ents
  have ks := kd_sc0 sc204
  have ks1 := kd_sc1 sc204
  have ks2 := kd_sc2 sc204
  have ks3 := kd_sc3 sc204
  have ks4 := kd_sc4 sc204
  have kt := kd_sc0 sc329
  have kt3 := kd_sc3 sc329
  have kp := kd_PT
  have kL := kd_Ls
  have cs8 := cs_scr
  have k58 := kd_458
  have k59 := kd_459
  have kr := kd_Reg
  have km := kd_marks
  have kc := kd_codes
  have k3 := kd_cols
  have k4 := kd_prows
  have kar := kd_areas
  have kow := kd_owners
  have ken := kd_ends
  have kq := kd_queue
  have kt1 := kd_sc1 sc329
  have kt2 := kd_sc2 sc329
  refine jj_iload_n F dX8_release_0 rfl ?_
  exact jj_thrS (na := 1) F X (t_refuseWrongUser_x hw (by rw [hl]; exact hst)) (gl_S mk_X8_106 vw_X8_refuseWrongUser) rfl rfl rfl (by decide +kernel) ⟨(Nat.le_of_ble_eq_true rfl), (Nat.le_of_ble_eq_true rfl)⟩ rfl rfl (Nat.le_of_ble_eq_true rfl) ⟨(Nat.le_of_ble_eq_true rfl), (Nat.le_of_ble_eq_true rfl)⟩ dX8_release_1 (fun M2 h => by rw [h]; exact hB)
set_option maxRecDepth 100000 in
set_option maxHeartbeats 1000000 in
theorem t_holder_1 {l : Launch} {E : Ee} {M : Mm} {a : Ab} {W : Nat} (hB : RelB M a W) {x : Int32} (hw : wiB x (nI 0) (nI 255) = false) (hst : l.stackTraces = false) : CtT l E yX8_holder (.code yX8_holder cX8_holder 2 (some .int) :: gl) ({ frames := 7, cells := 1, slots := 6, locals := 130 } : Room) M [.ref (E.2.2 0), .int x] eIX (fun M2 => RelB M2 a W) := by
  refine ctT_of (L0 := [some (.ref (E.2.2 0)), some (.int x)]) hst (by decide) rfl (Nat.le_of_ble_eq_true rfl) rfl ?_
  intro Z hl hE hnl F X
  subst hE
  have in_X8 : ∀ w ∈ u_ws RX8 TX8 9, w ∈ (.code yX8_holder cX8_holder 2 (some .int) :: gl) := fun w h => List.mem_cons_of_mem _ (lay_X8 w h)
  have g26 : FG Z 26 8 2 := fg_mk F (C := RX8) (T := TX8) (N := 9) in_X8 rfl (by decide) rfl (List.mem_cons_of_mem _ fk_X8_26)
  have g60 : FG Z 60 8 8 := fg_mk F (C := RX8) (T := TX8) (N := 9) in_X8 rfl (by decide) rfl (List.mem_cons_of_mem _ fk_X8_60)
  obtain ⟨hO, hL, hU, hK, hS, hT, hR0⟩ := id hB
  obtain ⟨h60, ht, htk, hn, hop, hac, hopk, Cb, hC, hCb⟩ := id hO
  obtain ⟨own, en, fa, la, l1, hA, hp⟩ := id hL
  obtain ⟨s1, s2, s3, s4⟩ := id hS
  obtain ⟨S0, hS0⟩ := id hR0.1
  obtain ⟨R, Q, q, hR, hQ, hq, hok⟩ := id hR0.2
  have kb := kd_B
  have kl := kd_Log
  have ke := kd_ents
  have ks := kd_sc0 sc204
  have ks1 := kd_sc1 sc204
  have ks2 := kd_sc2 sc204
  have ks3 := kd_sc3 sc204
  have ks4 := kd_sc4 sc204
  have kt := kd_sc0 sc329
  have kt3 := kd_sc3 sc329
  have kp := kd_PT
  have kL := kd_Ls
  have cs8 := cs_scr
  have k58 := kd_458
  have k59 := kd_459
  have kr := kd_Reg
  have km := kd_marks
  have kc := kd_codes
  have k3 := kd_cols
  have k4 := kd_prows
  have kar := kd_areas
  have kow := kd_owners
  have ken := kd_ends
  have kq := kd_queue
  have kt1 := kd_sc1 sc329
  have kt2 := kd_sc2 sc329
  refine jj_iload_n F dX8_holder_0 rfl ?_
  exact jj_thrS (na := 1) F X (t_refuseWrongCell_x hw (by rw [hl]; exact hst)) (gl_S mk_X8_151 vw_X8_refuseWrongCell) rfl rfl rfl (by decide +kernel) ⟨(Nat.le_of_ble_eq_true rfl), (Nat.le_of_ble_eq_true rfl)⟩ rfl rfl (Nat.le_of_ble_eq_true rfl) ⟨(Nat.le_of_ble_eq_true rfl), (Nat.le_of_ble_eq_true rfl)⟩ dX8_holder_1 (fun M2 h => by rw [h]; exact hB)
set_option maxRecDepth 100000 in
set_option maxHeartbeats 1000000 in
theorem t_color_1 {l : Launch} {E : Ee} {M : Mm} {a : Ab} {W : Nat} (hB : RelB M a W) {x : Int32} (hw : wiB x (nI 0) (nI 255) = false) (hst : l.stackTraces = false) : CtT l E yX8_color (.code yX8_color cX8_color 2 (some .int) :: gl) ({ frames := 7, cells := 1, slots := 6, locals := 130 } : Room) M [.ref (E.2.2 0), .int x] eIX (fun M2 => RelB M2 a W) := by
  refine ctT_of (L0 := [some (.ref (E.2.2 0)), some (.int x)]) hst (by decide) rfl (Nat.le_of_ble_eq_true rfl) rfl ?_
  intro Z hl hE hnl F X
  subst hE
  have in_X7 : ∀ w ∈ u_ws RX7 TX7 4, w ∈ (.code yX8_color cX8_color 2 (some .int) :: gl) := fun w h => List.mem_cons_of_mem _ (lay_X7 w h)
  have in_X8 : ∀ w ∈ u_ws RX8 TX8 9, w ∈ (.code yX8_color cX8_color 2 (some .int) :: gl) := fun w h => List.mem_cons_of_mem _ (lay_X8 w h)
  have g39 : FG Z 39 8 4 := fg_mk F (C := RX8) (T := TX8) (N := 9) in_X8 rfl (by decide) rfl (List.mem_cons_of_mem _ fk_X8_39)
  have g154 : FG Z 154 7 2 := fg_mk F (C := RX7) (T := TX7) (N := 4) in_X7 rfl (by decide) rfl (List.mem_cons_of_mem _ fk_X8_154)
  obtain ⟨hO, hL, hU, hK, hS, hT, hR0⟩ := id hB
  obtain ⟨h60, ht, htk, hn, hop, hac, hopk, Cb, hC, hCb⟩ := id hO
  obtain ⟨own, en, fa, la, l1, hA, hp⟩ := id hL
  obtain ⟨s1, s2, s3, s4⟩ := id hS
  obtain ⟨S0, hS0⟩ := id hR0.1
  obtain ⟨R, Q, q, hR, hQ, hq, hok⟩ := id hR0.2
  have kb := kd_B
  have kl := kd_Log
  have ke := kd_ents
  have ks := kd_sc0 sc204
  have ks1 := kd_sc1 sc204
  have ks2 := kd_sc2 sc204
  have ks3 := kd_sc3 sc204
  have ks4 := kd_sc4 sc204
  have kt := kd_sc0 sc329
  have kt3 := kd_sc3 sc329
  have kp := kd_PT
  have kL := kd_Ls
  have cs8 := cs_scr
  have k58 := kd_458
  have k59 := kd_459
  have kr := kd_Reg
  have km := kd_marks
  have kc := kd_codes
  have k3 := kd_cols
  have k4 := kd_prows
  have kar := kd_areas
  have kow := kd_owners
  have ken := kd_ends
  have kq := kd_queue
  have kt1 := kd_sc1 sc329
  have kt2 := kd_sc2 sc329
  refine jj_iload_n F dX8_color_0 rfl ?_
  exact jj_thrS (na := 1) F X (t_refuseWrongCell_x hw (by rw [hl]; exact hst)) (gl_S mk_X8_151 vw_X8_refuseWrongCell) rfl rfl rfl (by decide +kernel) ⟨(Nat.le_of_ble_eq_true rfl), (Nat.le_of_ble_eq_true rfl)⟩ rfl rfl (Nat.le_of_ble_eq_true rfl) ⟨(Nat.le_of_ble_eq_true rfl), (Nat.le_of_ble_eq_true rfl)⟩ dX8_color_1 (fun M2 h => by rw [h]; exact hB)
set_option maxRecDepth 100000 in
set_option maxHeartbeats 1000000 in
theorem t_top_1 {l : Launch} {E : Ee} {M : Mm} {a : Ab} {W : Nat} (hB : RelB M a W) {x : Int32} (hw : wiB x (nI 0) (nI 255) = false) (hst : l.stackTraces = false) : CtT l E yX8_top (.code yX8_top cX8_top 2 (some .int) :: gl) ({ frames := 7, cells := 1, slots := 6, locals := 130 } : Room) M [.ref (E.2.2 0), .int x] eIX (fun M2 => RelB M2 a W) := by
  refine ctT_of (L0 := [some (.ref (E.2.2 0)), some (.int x)]) hst (by decide) rfl (Nat.le_of_ble_eq_true rfl) rfl ?_
  intro Z hl hE hnl F X
  subst hE
  have in_X7 : ∀ w ∈ u_ws RX7 TX7 4, w ∈ (.code yX8_top cX8_top 2 (some .int) :: gl) := fun w h => List.mem_cons_of_mem _ (lay_X7 w h)
  have in_X8 : ∀ w ∈ u_ws RX8 TX8 9, w ∈ (.code yX8_top cX8_top 2 (some .int) :: gl) := fun w h => List.mem_cons_of_mem _ (lay_X8 w h)
  have g39 : FG Z 39 8 4 := fg_mk F (C := RX8) (T := TX8) (N := 9) in_X8 rfl (by decide) rfl (List.mem_cons_of_mem _ fk_X8_39)
  have g248 : FG Z 248 7 1 := fg_mk F (C := RX7) (T := TX7) (N := 4) in_X7 rfl (by decide) rfl (List.mem_cons_of_mem _ fk_X8_248)
  obtain ⟨hO, hL, hU, hK, hS, hT, hR0⟩ := id hB
  obtain ⟨h60, ht, htk, hn, hop, hac, hopk, Cb, hC, hCb⟩ := id hO
  obtain ⟨own, en, fa, la, l1, hA, hp⟩ := id hL
  obtain ⟨s1, s2, s3, s4⟩ := id hS
  obtain ⟨S0, hS0⟩ := id hR0.1
  obtain ⟨R, Q, q, hR, hQ, hq, hok⟩ := id hR0.2
  have kb := kd_B
  have kl := kd_Log
  have ke := kd_ents
  have ks := kd_sc0 sc204
  have ks1 := kd_sc1 sc204
  have ks2 := kd_sc2 sc204
  have ks3 := kd_sc3 sc204
  have ks4 := kd_sc4 sc204
  have kt := kd_sc0 sc329
  have kt3 := kd_sc3 sc329
  have kp := kd_PT
  have kL := kd_Ls
  have cs8 := cs_scr
  have k58 := kd_458
  have k59 := kd_459
  have kr := kd_Reg
  have km := kd_marks
  have kc := kd_codes
  have k3 := kd_cols
  have k4 := kd_prows
  have kar := kd_areas
  have kow := kd_owners
  have ken := kd_ends
  have kq := kd_queue
  have kt1 := kd_sc1 sc329
  have kt2 := kd_sc2 sc329
  refine jj_iload_n F dX8_top_0 rfl ?_
  exact jj_thrS (na := 1) F X (t_refuseWrongCell_x hw (by rw [hl]; exact hst)) (gl_S mk_X8_151 vw_X8_refuseWrongCell) rfl rfl rfl (by decide +kernel) ⟨(Nat.le_of_ble_eq_true rfl), (Nat.le_of_ble_eq_true rfl)⟩ rfl rfl (Nat.le_of_ble_eq_true rfl) ⟨(Nat.le_of_ble_eq_true rfl), (Nat.le_of_ble_eq_true rfl)⟩ dX8_top_1 (fun M2 h => by rw [h]; exact hB)
set_option maxRecDepth 100000 in
set_option maxHeartbeats 1000000 in
theorem t_setMark_1 {l : Launch} {E : Ee} {M : Mm} {a : Ab} {W : Nat} (hB : RelB M a W) {x : Int32} (hw : wiB x (nI 0) (nI 5) = false) (hst : l.stackTraces = false) : CtT l E yX8_setMark (.code yX8_setMark cX8_setMark 2 (some .int) :: gl) ({ frames := 7, cells := 1, slots := 6, locals := 130 } : Room) M [.ref (E.2.2 0), .int x] eIX (fun M2 => RelB M2 a W) := by
  refine ctT_of (L0 := [some (.ref (E.2.2 0)), some (.int x)]) hst (by decide) rfl (Nat.le_of_ble_eq_true rfl) rfl ?_
  intro Z hl hE hnl F X
  subst hE
  have in_X2 : ∀ w ∈ u_ws RX2 TX2 3, w ∈ (.code yX8_setMark cX8_setMark 2 (some .int) :: gl) := fun w h => List.mem_cons_of_mem _ (lay_X2 w h)
  have in_X8 : ∀ w ∈ u_ws RX8 TX8 9, w ∈ (.code yX8_setMark cX8_setMark 2 (some .int) :: gl) := fun w h => List.mem_cons_of_mem _ (lay_X8 w h)
  have g19 : FG Z 19 8 1 := fg_mk F (C := RX8) (T := TX8) (N := 9) in_X8 rfl (by decide) rfl (List.mem_cons_of_mem _ fk_X8_19)
  have g32 : FG Z 32 8 3 := fg_mk F (C := RX8) (T := TX8) (N := 9) in_X8 rfl (by decide) rfl (List.mem_cons_of_mem _ fk_X8_32)
  have g39 : FG Z 39 8 4 := fg_mk F (C := RX8) (T := TX8) (N := 9) in_X8 rfl (by decide) rfl (List.mem_cons_of_mem _ fk_X8_39)
  have g65 : FG Z 65 2 1 := fg_mk F (C := RX2) (T := TX2) (N := 3) in_X2 rfl (by decide) rfl (List.mem_cons_of_mem _ fk_X8_65)
  obtain ⟨hO, hL, hU, hK, hS, hT, hR0⟩ := id hB
  obtain ⟨h60, ht, htk, hn, hop, hac, hopk, Cb, hC, hCb⟩ := id hO
  obtain ⟨own, en, fa, la, l1, hA, hp⟩ := id hL
  obtain ⟨s1, s2, s3, s4⟩ := id hS
  obtain ⟨S0, hS0⟩ := id hR0.1
  obtain ⟨R, Q, q, hR, hQ, hq, hok⟩ := id hR0.2
  have kb := kd_B
  have kl := kd_Log
  have ke := kd_ents
  have ks := kd_sc0 sc204
  have ks1 := kd_sc1 sc204
  have ks2 := kd_sc2 sc204
  have ks3 := kd_sc3 sc204
  have ks4 := kd_sc4 sc204
  have kt := kd_sc0 sc329
  have kt3 := kd_sc3 sc329
  have kp := kd_PT
  have kL := kd_Ls
  have cs8 := cs_scr
  have k58 := kd_458
  have k59 := kd_459
  have kr := kd_Reg
  have km := kd_marks
  have kc := kd_codes
  have k3 := kd_cols
  have k4 := kd_prows
  have kar := kd_areas
  have kow := kd_owners
  have ken := kd_ends
  have kq := kd_queue
  have kt1 := kd_sc1 sc329
  have kt2 := kd_sc2 sc329
  refine jj_iload_n F dX8_setMark_0 rfl ?_
  exact jj_thrS (na := 1) F X (t_refuseWrongMark_x hw (by rw [hl]; exact hst)) (gl_S mk_X8_222 vw_X8_refuseWrongMark) rfl rfl rfl (by decide +kernel) ⟨(Nat.le_of_ble_eq_true rfl), (Nat.le_of_ble_eq_true rfl)⟩ rfl rfl (Nat.le_of_ble_eq_true rfl) ⟨(Nat.le_of_ble_eq_true rfl), (Nat.le_of_ble_eq_true rfl)⟩ dX8_setMark_1 (fun M2 h => by rw [h]; exact hB)
set_option maxRecDepth 100000 in
set_option maxHeartbeats 1000000 in
theorem t_replay_1a {l : Launch} {E : Ee} {M : Mm} {a : Ab} {W : Nat} (hB : RelB M a W) {x y : Int32} (hw : wiB x (nI 0) (nI 5) = false) (hst : l.stackTraces = false) : CtT l E yX8_replay (.code yX8_replay cX8_replay 3 (some .int) :: gl) ({ frames := 7, cells := 1, slots := 6, locals := 130 } : Room) M [.ref (E.2.2 0), .int x, .int y] eIX (fun M2 => RelB M2 a W) := by
  refine ctT_of (L0 := [some (.ref (E.2.2 0)), some (.int x), some (.int y)]) hst (by decide) rfl (Nat.le_of_ble_eq_true rfl) rfl ?_
  intro Z hl hE hnl F X
  subst hE
  have in_X3 : ∀ w ∈ u_ws RX3 TX3 4, w ∈ (.code yX8_replay cX8_replay 3 (some .int) :: gl) := fun w h => List.mem_cons_of_mem _ (lay_X3 w h)
  have in_X8 : ∀ w ∈ u_ws RX8 TX8 9, w ∈ (.code yX8_replay cX8_replay 3 (some .int) :: gl) := fun w h => List.mem_cons_of_mem _ (lay_X8 w h)
  have g32 : FG Z 32 8 3 := fg_mk F (C := RX8) (T := TX8) (N := 9) in_X8 rfl (by decide) rfl (List.mem_cons_of_mem _ fk_X8_32)
  have g232 : FG Z 232 3 3 := fg_mk F (C := RX3) (T := TX3) (N := 4) in_X3 rfl (by decide) rfl (List.mem_cons_of_mem _ fk_X8_232)
  obtain ⟨hO, hL, hU, hK, hS, hT, hR0⟩ := id hB
  obtain ⟨h60, ht, htk, hn, hop, hac, hopk, Cb, hC, hCb⟩ := id hO
  obtain ⟨own, en, fa, la, l1, hA, hp⟩ := id hL
  obtain ⟨s1, s2, s3, s4⟩ := id hS
  obtain ⟨S0, hS0⟩ := id hR0.1
  obtain ⟨R, Q, q, hR, hQ, hq, hok⟩ := id hR0.2
  have kb := kd_B
  have kl := kd_Log
  have ke := kd_ents
  have ks := kd_sc0 sc204
  have ks1 := kd_sc1 sc204
  have ks2 := kd_sc2 sc204
  have ks3 := kd_sc3 sc204
  have ks4 := kd_sc4 sc204
  have kt := kd_sc0 sc329
  have kt3 := kd_sc3 sc329
  have kp := kd_PT
  have kL := kd_Ls
  have cs8 := cs_scr
  have k58 := kd_458
  have k59 := kd_459
  have kr := kd_Reg
  have km := kd_marks
  have kc := kd_codes
  have k3 := kd_cols
  have k4 := kd_prows
  have kar := kd_areas
  have kow := kd_owners
  have ken := kd_ends
  have kq := kd_queue
  have kt1 := kd_sc1 sc329
  have kt2 := kd_sc2 sc329
  refine jj_iload_n F dX8_replay_0 rfl ?_
  exact jj_thrS (na := 1) F X (t_refuseWrongMark_x hw (by rw [hl]; exact hst)) (gl_S mk_X8_222 vw_X8_refuseWrongMark) rfl rfl rfl (by decide +kernel) ⟨(Nat.le_of_ble_eq_true rfl), (Nat.le_of_ble_eq_true rfl)⟩ rfl rfl (Nat.le_of_ble_eq_true rfl) ⟨(Nat.le_of_ble_eq_true rfl), (Nat.le_of_ble_eq_true rfl)⟩ dX8_replay_1 (fun M2 h => by rw [h]; exact hB)
set_option maxRecDepth 100000 in
set_option maxHeartbeats 1000000 in
theorem t_replay_1b {l : Launch} {E : Ee} {M : Mm} {a : Ab} {W : Nat} (hB : RelB M a W) {m : Nat} {x : Int32} (hm : m < 6) (hw : wiB x (nI 0) (nI 255) = false) (hst : l.stackTraces = false) : CtT l E yX8_replay (.code yX8_replay cX8_replay 3 (some .int) :: gl) ({ frames := 7, cells := 1, slots := 6, locals := 130 } : Room) M [.ref (E.2.2 0), .int (nI m), .int x] eIX (fun M2 => RelB M2 a W) := by
  refine ctT_of (L0 := [some (.ref (E.2.2 0)), some (.int (nI m)), some (.int x)]) hst (by decide) rfl (Nat.le_of_ble_eq_true rfl) rfl ?_
  intro Z hl hE hnl F X
  subst hE
  have in_X3 : ∀ w ∈ u_ws RX3 TX3 4, w ∈ (.code yX8_replay cX8_replay 3 (some .int) :: gl) := fun w h => List.mem_cons_of_mem _ (lay_X3 w h)
  have in_X8 : ∀ w ∈ u_ws RX8 TX8 9, w ∈ (.code yX8_replay cX8_replay 3 (some .int) :: gl) := fun w h => List.mem_cons_of_mem _ (lay_X8 w h)
  have g32 : FG Z 32 8 3 := fg_mk F (C := RX8) (T := TX8) (N := 9) in_X8 rfl (by decide) rfl (List.mem_cons_of_mem _ fk_X8_32)
  have g232 : FG Z 232 3 3 := fg_mk F (C := RX3) (T := TX3) (N := 4) in_X3 rfl (by decide) rfl (List.mem_cons_of_mem _ fk_X8_232)
  obtain ⟨hO, hL, hU, hK, hS, hT, hR0⟩ := id hB
  obtain ⟨h60, ht, htk, hn, hop, hac, hopk, Cb, hC, hCb⟩ := id hO
  obtain ⟨own, en, fa, la, l1, hA, hp⟩ := id hL
  obtain ⟨s1, s2, s3, s4⟩ := id hS
  obtain ⟨S0, hS0⟩ := id hR0.1
  obtain ⟨R, Q, q, hR, hQ, hq, hok⟩ := id hR0.2
  have kb := kd_B
  have kl := kd_Log
  have ke := kd_ents
  have ks := kd_sc0 sc204
  have ks1 := kd_sc1 sc204
  have ks2 := kd_sc2 sc204
  have ks3 := kd_sc3 sc204
  have ks4 := kd_sc4 sc204
  have kt := kd_sc0 sc329
  have kt3 := kd_sc3 sc329
  have kp := kd_PT
  have kL := kd_Ls
  have cs8 := cs_scr
  have k58 := kd_458
  have k59 := kd_459
  have kr := kd_Reg
  have km := kd_marks
  have kc := kd_codes
  have k3 := kd_cols
  have k4 := kd_prows
  have kar := kd_areas
  have kow := kd_owners
  have ken := kd_ends
  have kq := kd_queue
  have kt1 := kd_sc1 sc329
  have kt2 := kd_sc2 sc329
  refine jj_iload_n F dX8_replay_0 rfl ?_
  refine jj_callSv (na := 1) F (c_X8_refuseWrongMark hm) (gl_S mk_X8_222 vw_X8_refuseWrongMark) rfl rfl rfl (by decide +kernel) ⟨Nat.le_of_ble_eq_true rfl, Nat.le_of_ble_eq_true rfl⟩ rfl rfl (Nat.le_of_ble_eq_true rfl) ⟨Nat.le_of_ble_eq_true rfl, Nat.le_of_ble_eq_true rfl⟩ dX8_replay_1 (fun M1 hp1 => ?_)
  obtain rfl := hp1.symm
  refine jj_iload_n F dX8_replay_4 rfl ?_
  exact jj_thrS (na := 1) F X (t_refuseWrongCell_x hw (by rw [hl]; exact hst)) (gl_S mk_X8_151 vw_X8_refuseWrongCell) rfl rfl rfl (by decide +kernel) ⟨(Nat.le_of_ble_eq_true rfl), (Nat.le_of_ble_eq_true rfl)⟩ rfl rfl (Nat.le_of_ble_eq_true rfl) ⟨(Nat.le_of_ble_eq_true rfl), (Nat.le_of_ble_eq_true rfl)⟩ dX8_replay_5 (fun M2 h => by rw [h]; exact hB)
set_option maxRecDepth 100000 in
set_option maxHeartbeats 1000000 in
theorem t_replay_2 {l : Launch} {E : Ee} {M : Mm} {a : Ab} {W : Nat} (hB : RelB M a W) {m c : Nat} (hm : m < 6) (hc : c < 256) (hs9 : (a_mk a m).1 = false) (hst : l.stackTraces = false) : CtT l E yX8_replay (.code yX8_replay cX8_replay 3 (some .int) :: gl) ({ frames := 7, cells := 1, slots := 6, locals := 130 } : Room) M [.ref (E.2.2 0), .int (nI m), .int (nI c)] eIS (fun M2 => RelB M2 a W) := by
  refine ctT_of (L0 := [some (.ref (E.2.2 0)), some (.int (nI m)), some (.int (nI c))]) hst (by decide) rfl (Nat.le_of_ble_eq_true rfl) rfl ?_
  intro Z hl hE hnl F X
  subst hE
  have in_X3 : ∀ w ∈ u_ws RX3 TX3 4, w ∈ (.code yX8_replay cX8_replay 3 (some .int) :: gl) := fun w h => List.mem_cons_of_mem _ (lay_X3 w h)
  have in_X8 : ∀ w ∈ u_ws RX8 TX8 9, w ∈ (.code yX8_replay cX8_replay 3 (some .int) :: gl) := fun w h => List.mem_cons_of_mem _ (lay_X8 w h)
  have g32 : FG Z 32 8 3 := fg_mk F (C := RX8) (T := TX8) (N := 9) in_X8 rfl (by decide) rfl (List.mem_cons_of_mem _ fk_X8_32)
  have g232 : FG Z 232 3 3 := fg_mk F (C := RX3) (T := TX3) (N := 4) in_X3 rfl (by decide) rfl (List.mem_cons_of_mem _ fk_X8_232)
  obtain ⟨hO, hL, hU, hK, hS, hT, hR0⟩ := id hB
  obtain ⟨h60, ht, htk, hn, hop, hac, hopk, Cb, hC, hCb⟩ := id hO
  obtain ⟨own, en, fa, la, l1, hA, hp⟩ := id hL
  obtain ⟨s1, s2, s3, s4⟩ := id hS
  obtain ⟨S0, hS0⟩ := id hR0.1
  obtain ⟨R, Q, q, hR, hQ, hq, hok⟩ := id hR0.2
  have kb := kd_B
  have kl := kd_Log
  have ke := kd_ents
  have ks := kd_sc0 sc204
  have ks1 := kd_sc1 sc204
  have ks2 := kd_sc2 sc204
  have ks3 := kd_sc3 sc204
  have ks4 := kd_sc4 sc204
  have kt := kd_sc0 sc329
  have kt3 := kd_sc3 sc329
  have kp := kd_PT
  have kL := kd_Ls
  have cs8 := cs_scr
  have k58 := kd_458
  have k59 := kd_459
  have kr := kd_Reg
  have km := kd_marks
  have kc := kd_codes
  have k3 := kd_cols
  have k4 := kd_prows
  have kar := kd_areas
  have kow := kd_owners
  have ken := kd_ends
  have kq := kd_queue
  have kt1 := kd_sc1 sc329
  have kt2 := kd_sc2 sc329
  refine jj_iload_n F dX8_replay_0 rfl ?_
  refine jj_callSv (na := 1) F (c_X8_refuseWrongMark hm) (gl_S mk_X8_222 vw_X8_refuseWrongMark) rfl rfl rfl (by decide +kernel) ⟨Nat.le_of_ble_eq_true rfl, Nat.le_of_ble_eq_true rfl⟩ rfl rfl (Nat.le_of_ble_eq_true rfl) ⟨Nat.le_of_ble_eq_true rfl, Nat.le_of_ble_eq_true rfl⟩ dX8_replay_1 (fun M1 hp1 => ?_)
  obtain rfl := hp1.symm
  refine jj_iload_n F dX8_replay_4 rfl ?_
  refine jj_callSv (na := 1) F (c_X8_refuseWrongCell hc) (gl_S mk_X8_151 vw_X8_refuseWrongCell) rfl rfl rfl (by decide +kernel) ⟨Nat.le_of_ble_eq_true rfl, Nat.le_of_ble_eq_true rfl⟩ rfl rfl (Nat.le_of_ble_eq_true rfl) ⟨Nat.le_of_ble_eq_true rfl, Nat.le_of_ble_eq_true rfl⟩ dX8_replay_5 (fun M5 hp5 => ?_)
  obtain rfl := hp5.symm
  refine jj_aload_n F dX8_replay_8 rfl ?_
  refine jj_iload_n F dX8_replay_9 rfl ?_
  exact jj_thrV (na := 1) F X (t_refuseUnsetMark_x hB hm hs9 (by rw [hl]; exact hst)) (gl_V mk_X8_229 vw_X8_refuseUnsetMark) rfl rfl rfl (by decide +kernel) ⟨(Nat.le_of_ble_eq_true rfl), (Nat.le_of_ble_eq_true rfl)⟩ kb rfl rfl rfl (Nat.le_of_ble_eq_true rfl) ⟨(Nat.le_of_ble_eq_true rfl), (Nat.le_of_ble_eq_true rfl)⟩ dX8_replay_10 (fun M2 h => by rw [h]; exact hB)
set_option maxRecDepth 100000 in
set_option maxHeartbeats 1000000 in
theorem t_difference_1 {l : Launch} {E : Ee} {M : Mm} {a : Ab} {W : Nat} (hB : RelB M a W) {x : Int32} (hw : wiB x (nI 0) (nI 5) = false) (hst : l.stackTraces = false) : CtT l E yX8_difference (.code yX8_difference cX8_difference 2 (some .int) :: gl) ({ frames := 7, cells := 1, slots := 6, locals := 130 } : Room) M [.ref (E.2.2 0), .int x] eIX (fun M2 => RelB M2 a W) := by
  refine ctT_of (L0 := [some (.ref (E.2.2 0)), some (.int x)]) hst (by decide) rfl (Nat.le_of_ble_eq_true rfl) rfl ?_
  intro Z hl hE hnl F X
  subst hE
  have in_X3 : ∀ w ∈ u_ws RX3 TX3 4, w ∈ (.code yX8_difference cX8_difference 2 (some .int) :: gl) := fun w h => List.mem_cons_of_mem _ (lay_X3 w h)
  have in_X7 : ∀ w ∈ u_ws RX7 TX7 4, w ∈ (.code yX8_difference cX8_difference 2 (some .int) :: gl) := fun w h => List.mem_cons_of_mem _ (lay_X7 w h)
  have in_X8 : ∀ w ∈ u_ws RX8 TX8 9, w ∈ (.code yX8_difference cX8_difference 2 (some .int) :: gl) := fun w h => List.mem_cons_of_mem _ (lay_X8 w h)
  have g32 : FG Z 32 8 3 := fg_mk F (C := RX8) (T := TX8) (N := 9) in_X8 rfl (by decide) rfl (List.mem_cons_of_mem _ fk_X8_32)
  have g39 : FG Z 39 8 4 := fg_mk F (C := RX8) (T := TX8) (N := 9) in_X8 rfl (by decide) rfl (List.mem_cons_of_mem _ fk_X8_39)
  have g154 : FG Z 154 7 2 := fg_mk F (C := RX7) (T := TX7) (N := 4) in_X7 rfl (by decide) rfl (List.mem_cons_of_mem _ fk_X8_154)
  have g232 : FG Z 232 3 3 := fg_mk F (C := RX3) (T := TX3) (N := 4) in_X3 rfl (by decide) rfl (List.mem_cons_of_mem _ fk_X8_232)
  obtain ⟨hO, hL, hU, hK, hS, hT, hR0⟩ := id hB
  obtain ⟨h60, ht, htk, hn, hop, hac, hopk, Cb, hC, hCb⟩ := id hO
  obtain ⟨own, en, fa, la, l1, hA, hp⟩ := id hL
  obtain ⟨s1, s2, s3, s4⟩ := id hS
  obtain ⟨S0, hS0⟩ := id hR0.1
  obtain ⟨R, Q, q, hR, hQ, hq, hok⟩ := id hR0.2
  have kb := kd_B
  have kl := kd_Log
  have ke := kd_ents
  have ks := kd_sc0 sc204
  have ks1 := kd_sc1 sc204
  have ks2 := kd_sc2 sc204
  have ks3 := kd_sc3 sc204
  have ks4 := kd_sc4 sc204
  have kt := kd_sc0 sc329
  have kt3 := kd_sc3 sc329
  have kp := kd_PT
  have kL := kd_Ls
  have cs8 := cs_scr
  have k58 := kd_458
  have k59 := kd_459
  have kr := kd_Reg
  have km := kd_marks
  have kc := kd_codes
  have k3 := kd_cols
  have k4 := kd_prows
  have kar := kd_areas
  have kow := kd_owners
  have ken := kd_ends
  have kq := kd_queue
  have kt1 := kd_sc1 sc329
  have kt2 := kd_sc2 sc329
  refine jj_iload_n F dX8_difference_0 rfl ?_
  exact jj_thrS (na := 1) F X (t_refuseWrongMark_x hw (by rw [hl]; exact hst)) (gl_S mk_X8_222 vw_X8_refuseWrongMark) rfl rfl rfl (by decide +kernel) ⟨(Nat.le_of_ble_eq_true rfl), (Nat.le_of_ble_eq_true rfl)⟩ rfl rfl (Nat.le_of_ble_eq_true rfl) ⟨(Nat.le_of_ble_eq_true rfl), (Nat.le_of_ble_eq_true rfl)⟩ dX8_difference_1 (fun M2 h => by rw [h]; exact hB)
set_option maxRecDepth 100000 in
set_option maxHeartbeats 1000000 in
theorem t_difference_2 {l : Launch} {E : Ee} {M : Mm} {a : Ab} {W : Nat} (hB : RelB M a W) {m : Nat} (hm : m < 6) (hs9 : (a_mk a m).1 = false) (hst : l.stackTraces = false) : CtT l E yX8_difference (.code yX8_difference cX8_difference 2 (some .int) :: gl) ({ frames := 7, cells := 1, slots := 6, locals := 130 } : Room) M [.ref (E.2.2 0), .int (nI m)] eIS (fun M2 => RelB M2 a W) := by
  refine ctT_of (L0 := [some (.ref (E.2.2 0)), some (.int (nI m))]) hst (by decide) rfl (Nat.le_of_ble_eq_true rfl) rfl ?_
  intro Z hl hE hnl F X
  subst hE
  have in_X3 : ∀ w ∈ u_ws RX3 TX3 4, w ∈ (.code yX8_difference cX8_difference 2 (some .int) :: gl) := fun w h => List.mem_cons_of_mem _ (lay_X3 w h)
  have in_X7 : ∀ w ∈ u_ws RX7 TX7 4, w ∈ (.code yX8_difference cX8_difference 2 (some .int) :: gl) := fun w h => List.mem_cons_of_mem _ (lay_X7 w h)
  have in_X8 : ∀ w ∈ u_ws RX8 TX8 9, w ∈ (.code yX8_difference cX8_difference 2 (some .int) :: gl) := fun w h => List.mem_cons_of_mem _ (lay_X8 w h)
  have g32 : FG Z 32 8 3 := fg_mk F (C := RX8) (T := TX8) (N := 9) in_X8 rfl (by decide) rfl (List.mem_cons_of_mem _ fk_X8_32)
  have g39 : FG Z 39 8 4 := fg_mk F (C := RX8) (T := TX8) (N := 9) in_X8 rfl (by decide) rfl (List.mem_cons_of_mem _ fk_X8_39)
  have g154 : FG Z 154 7 2 := fg_mk F (C := RX7) (T := TX7) (N := 4) in_X7 rfl (by decide) rfl (List.mem_cons_of_mem _ fk_X8_154)
  have g232 : FG Z 232 3 3 := fg_mk F (C := RX3) (T := TX3) (N := 4) in_X3 rfl (by decide) rfl (List.mem_cons_of_mem _ fk_X8_232)
  obtain ⟨hO, hL, hU, hK, hS, hT, hR0⟩ := id hB
  obtain ⟨h60, ht, htk, hn, hop, hac, hopk, Cb, hC, hCb⟩ := id hO
  obtain ⟨own, en, fa, la, l1, hA, hp⟩ := id hL
  obtain ⟨s1, s2, s3, s4⟩ := id hS
  obtain ⟨S0, hS0⟩ := id hR0.1
  obtain ⟨R, Q, q, hR, hQ, hq, hok⟩ := id hR0.2
  have kb := kd_B
  have kl := kd_Log
  have ke := kd_ents
  have ks := kd_sc0 sc204
  have ks1 := kd_sc1 sc204
  have ks2 := kd_sc2 sc204
  have ks3 := kd_sc3 sc204
  have ks4 := kd_sc4 sc204
  have kt := kd_sc0 sc329
  have kt3 := kd_sc3 sc329
  have kp := kd_PT
  have kL := kd_Ls
  have cs8 := cs_scr
  have k58 := kd_458
  have k59 := kd_459
  have kr := kd_Reg
  have km := kd_marks
  have kc := kd_codes
  have k3 := kd_cols
  have k4 := kd_prows
  have kar := kd_areas
  have kow := kd_owners
  have ken := kd_ends
  have kq := kd_queue
  have kt1 := kd_sc1 sc329
  have kt2 := kd_sc2 sc329
  refine jj_iload_n F dX8_difference_0 rfl ?_
  refine jj_callSv (na := 1) F (c_X8_refuseWrongMark hm) (gl_S mk_X8_222 vw_X8_refuseWrongMark) rfl rfl rfl (by decide +kernel) ⟨Nat.le_of_ble_eq_true rfl, Nat.le_of_ble_eq_true rfl⟩ rfl rfl (Nat.le_of_ble_eq_true rfl) ⟨Nat.le_of_ble_eq_true rfl, Nat.le_of_ble_eq_true rfl⟩ dX8_difference_1 (fun M1 hp1 => ?_)
  obtain rfl := hp1.symm
  refine jj_aload_n F dX8_difference_4 rfl ?_
  refine jj_iload_n F dX8_difference_5 rfl ?_
  exact jj_thrV (na := 1) F X (t_refuseUnsetMark_x hB hm hs9 (by rw [hl]; exact hst)) (gl_V mk_X8_229 vw_X8_refuseUnsetMark) rfl rfl rfl (by decide +kernel) ⟨(Nat.le_of_ble_eq_true rfl), (Nat.le_of_ble_eq_true rfl)⟩ kb rfl rfl rfl (Nat.le_of_ble_eq_true rfl) ⟨(Nat.le_of_ble_eq_true rfl), (Nat.le_of_ble_eq_true rfl)⟩ dX8_difference_6 (fun M2 h => by rw [h]; exact hB)
set_option maxRecDepth 100000 in
set_option maxHeartbeats 1000000 in
theorem t_rewind_1 {l : Launch} {E : Ee} {M : Mm} {a : Ab} {W : Nat} (hB : RelB M a W) {x : Int32} (hw : wiB x (nI 0) (nI 5) = false) (hst : l.stackTraces = false) : CtT l E yX8_rewind (.code yX8_rewind cX8_rewind 4 (some .int) :: gl) ({ frames := 7, cells := 1, slots := 6, locals := 130 } : Room) M [.ref (E.2.2 0), .int x] eIX (fun M2 => RelB M2 a W) := by
  refine ctT_of (L0 := [some (.ref (E.2.2 0)), some (.int x), none, none]) hst (by decide) rfl (Nat.le_of_ble_eq_true rfl) rfl ?_
  intro Z hl hE hnl F X
  subst hE
  have in_X2 : ∀ w ∈ u_ws RX2 TX2 3, w ∈ (.code yX8_rewind cX8_rewind 4 (some .int) :: gl) := fun w h => List.mem_cons_of_mem _ (lay_X2 w h)
  have in_X3 : ∀ w ∈ u_ws RX3 TX3 4, w ∈ (.code yX8_rewind cX8_rewind 4 (some .int) :: gl) := fun w h => List.mem_cons_of_mem _ (lay_X3 w h)
  have in_X8 : ∀ w ∈ u_ws RX8 TX8 9, w ∈ (.code yX8_rewind cX8_rewind 4 (some .int) :: gl) := fun w h => List.mem_cons_of_mem _ (lay_X8 w h)
  have g19 : FG Z 19 8 1 := fg_mk F (C := RX8) (T := TX8) (N := 9) in_X8 rfl (by decide) rfl (List.mem_cons_of_mem _ fk_X8_19)
  have g32 : FG Z 32 8 3 := fg_mk F (C := RX8) (T := TX8) (N := 9) in_X8 rfl (by decide) rfl (List.mem_cons_of_mem _ fk_X8_32)
  have g65 : FG Z 65 2 1 := fg_mk F (C := RX2) (T := TX2) (N := 3) in_X2 rfl (by decide) rfl (List.mem_cons_of_mem _ fk_X8_65)
  have g237 : FG Z 237 3 1 := fg_mk F (C := RX3) (T := TX3) (N := 4) in_X3 rfl (by decide) rfl (List.mem_cons_of_mem _ fk_X8_237)
  have p71 : FP Z 71 3 0 .boolean := fp_mk F (C := RX3) (T := TX3) (N := 4) in_X3 tyX3_ok nmX3 rfl (by decide) rfl (List.mem_cons_of_mem _ fk_X8_71) rfl (by decide +kernel)
  obtain ⟨hO, hL, hU, hK, hS, hT, hR0⟩ := id hB
  obtain ⟨h60, ht, htk, hn, hop, hac, hopk, Cb, hC, hCb⟩ := id hO
  obtain ⟨own, en, fa, la, l1, hA, hp⟩ := id hL
  obtain ⟨s1, s2, s3, s4⟩ := id hS
  obtain ⟨S0, hS0⟩ := id hR0.1
  obtain ⟨R, Q, q, hR, hQ, hq, hok⟩ := id hR0.2
  have kb := kd_B
  have kl := kd_Log
  have ke := kd_ents
  have ks := kd_sc0 sc204
  have ks1 := kd_sc1 sc204
  have ks2 := kd_sc2 sc204
  have ks3 := kd_sc3 sc204
  have ks4 := kd_sc4 sc204
  have kt := kd_sc0 sc329
  have kt3 := kd_sc3 sc329
  have kp := kd_PT
  have kL := kd_Ls
  have cs8 := cs_scr
  have k58 := kd_458
  have k59 := kd_459
  have kr := kd_Reg
  have km := kd_marks
  have kc := kd_codes
  have k3 := kd_cols
  have k4 := kd_prows
  have kar := kd_areas
  have kow := kd_owners
  have ken := kd_ends
  have kq := kd_queue
  have kt1 := kd_sc1 sc329
  have kt2 := kd_sc2 sc329
  refine jj_iload_n F dX8_rewind_0 rfl ?_
  exact jj_thrS (na := 1) F X (t_refuseWrongMark_x hw (by rw [hl]; exact hst)) (gl_S mk_X8_222 vw_X8_refuseWrongMark) rfl rfl rfl (by decide +kernel) ⟨(Nat.le_of_ble_eq_true rfl), (Nat.le_of_ble_eq_true rfl)⟩ rfl rfl (Nat.le_of_ble_eq_true rfl) ⟨(Nat.le_of_ble_eq_true rfl), (Nat.le_of_ble_eq_true rfl)⟩ dX8_rewind_1 (fun M2 h => by rw [h]; exact hB)
set_option maxRecDepth 100000 in
set_option maxHeartbeats 1000000 in
theorem t_rewind_2 {l : Launch} {E : Ee} {M : Mm} {a : Ab} {W : Nat} (hB : RelB M a W) {m : Nat} (hm : m < 6) (hs9 : (a_mk a m).1 = false) (hst : l.stackTraces = false) : CtT l E yX8_rewind (.code yX8_rewind cX8_rewind 4 (some .int) :: gl) ({ frames := 7, cells := 1, slots := 6, locals := 130 } : Room) M [.ref (E.2.2 0), .int (nI m)] eIS (fun M2 => RelB M2 a W) := by
  refine ctT_of (L0 := [some (.ref (E.2.2 0)), some (.int (nI m)), none, none]) hst (by decide) rfl (Nat.le_of_ble_eq_true rfl) rfl ?_
  intro Z hl hE hnl F X
  subst hE
  have in_X2 : ∀ w ∈ u_ws RX2 TX2 3, w ∈ (.code yX8_rewind cX8_rewind 4 (some .int) :: gl) := fun w h => List.mem_cons_of_mem _ (lay_X2 w h)
  have in_X3 : ∀ w ∈ u_ws RX3 TX3 4, w ∈ (.code yX8_rewind cX8_rewind 4 (some .int) :: gl) := fun w h => List.mem_cons_of_mem _ (lay_X3 w h)
  have in_X8 : ∀ w ∈ u_ws RX8 TX8 9, w ∈ (.code yX8_rewind cX8_rewind 4 (some .int) :: gl) := fun w h => List.mem_cons_of_mem _ (lay_X8 w h)
  have g19 : FG Z 19 8 1 := fg_mk F (C := RX8) (T := TX8) (N := 9) in_X8 rfl (by decide) rfl (List.mem_cons_of_mem _ fk_X8_19)
  have g32 : FG Z 32 8 3 := fg_mk F (C := RX8) (T := TX8) (N := 9) in_X8 rfl (by decide) rfl (List.mem_cons_of_mem _ fk_X8_32)
  have g65 : FG Z 65 2 1 := fg_mk F (C := RX2) (T := TX2) (N := 3) in_X2 rfl (by decide) rfl (List.mem_cons_of_mem _ fk_X8_65)
  have g237 : FG Z 237 3 1 := fg_mk F (C := RX3) (T := TX3) (N := 4) in_X3 rfl (by decide) rfl (List.mem_cons_of_mem _ fk_X8_237)
  have p71 : FP Z 71 3 0 .boolean := fp_mk F (C := RX3) (T := TX3) (N := 4) in_X3 tyX3_ok nmX3 rfl (by decide) rfl (List.mem_cons_of_mem _ fk_X8_71) rfl (by decide +kernel)
  obtain ⟨hO, hL, hU, hK, hS, hT, hR0⟩ := id hB
  obtain ⟨h60, ht, htk, hn, hop, hac, hopk, Cb, hC, hCb⟩ := id hO
  obtain ⟨own, en, fa, la, l1, hA, hp⟩ := id hL
  obtain ⟨s1, s2, s3, s4⟩ := id hS
  obtain ⟨S0, hS0⟩ := id hR0.1
  obtain ⟨R, Q, q, hR, hQ, hq, hok⟩ := id hR0.2
  have kb := kd_B
  have kl := kd_Log
  have ke := kd_ents
  have ks := kd_sc0 sc204
  have ks1 := kd_sc1 sc204
  have ks2 := kd_sc2 sc204
  have ks3 := kd_sc3 sc204
  have ks4 := kd_sc4 sc204
  have kt := kd_sc0 sc329
  have kt3 := kd_sc3 sc329
  have kp := kd_PT
  have kL := kd_Ls
  have cs8 := cs_scr
  have k58 := kd_458
  have k59 := kd_459
  have kr := kd_Reg
  have km := kd_marks
  have kc := kd_codes
  have k3 := kd_cols
  have k4 := kd_prows
  have kar := kd_areas
  have kow := kd_owners
  have ken := kd_ends
  have kq := kd_queue
  have kt1 := kd_sc1 sc329
  have kt2 := kd_sc2 sc329
  refine jj_iload_n F dX8_rewind_0 rfl ?_
  refine jj_callSv (na := 1) F (c_X8_refuseWrongMark hm) (gl_S mk_X8_222 vw_X8_refuseWrongMark) rfl rfl rfl (by decide +kernel) ⟨Nat.le_of_ble_eq_true rfl, Nat.le_of_ble_eq_true rfl⟩ rfl rfl (Nat.le_of_ble_eq_true rfl) ⟨Nat.le_of_ble_eq_true rfl, Nat.le_of_ble_eq_true rfl⟩ dX8_rewind_1 (fun M1 hp1 => ?_)
  obtain rfl := hp1.symm
  refine jj_aload_n F dX8_rewind_4 rfl ?_
  refine jj_iload_n F dX8_rewind_5 rfl ?_
  exact jj_thrV (na := 1) F X (t_refuseUnsetMark_x hB hm hs9 (by rw [hl]; exact hst)) (gl_V mk_X8_229 vw_X8_refuseUnsetMark) rfl rfl rfl (by decide +kernel) ⟨(Nat.le_of_ble_eq_true rfl), (Nat.le_of_ble_eq_true rfl)⟩ kb rfl rfl rfl (Nat.le_of_ble_eq_true rfl) ⟨(Nat.le_of_ble_eq_true rfl), (Nat.le_of_ble_eq_true rfl)⟩ dX8_rewind_6 (fun M2 h => by rw [h]; exact hB)
set_option maxRecDepth 100000 in
set_option maxHeartbeats 1000000 in
theorem t_colorLater_1 {l : Launch} {E : Ee} {M : Mm} {a : Ab} {W : Nat} (hB : RelB M a W) {x y : Int32} (hw : wiB x (nI 0) (nI 255) = false) (hst : l.stackTraces = false) : CtT l E yX8_colorLater (.code yX8_colorLater cX8_colorLater 3 (some .int) :: gl) ({ frames := 7, cells := 1, slots := 6, locals := 130 } : Room) M [.ref (E.2.2 0), .int x, .int y] eIX (fun M2 => RelB M2 a W) := by
  refine ctT_of (L0 := [some (.ref (E.2.2 0)), some (.int x), some (.int y)]) hst (by decide) rfl (Nat.le_of_ble_eq_true rfl) rfl ?_
  intro Z hl hE hnl F X
  subst hE
  have in_X7 : ∀ w ∈ u_ws RX7 TX7 4, w ∈ (.code yX8_colorLater cX8_colorLater 3 (some .int) :: gl) := fun w h => List.mem_cons_of_mem _ (lay_X7 w h)
  have in_X8 : ∀ w ∈ u_ws RX8 TX8 9, w ∈ (.code yX8_colorLater cX8_colorLater 3 (some .int) :: gl) := fun w h => List.mem_cons_of_mem _ (lay_X8 w h)
  have g19 : FG Z 19 8 1 := fg_mk F (C := RX8) (T := TX8) (N := 9) in_X8 rfl (by decide) rfl (List.mem_cons_of_mem _ fk_X8_19)
  have g43 : FG Z 43 8 5 := fg_mk F (C := RX8) (T := TX8) (N := 9) in_X8 rfl (by decide) rfl (List.mem_cons_of_mem _ fk_X8_43)
  have g60 : FG Z 60 8 8 := fg_mk F (C := RX8) (T := TX8) (N := 9) in_X8 rfl (by decide) rfl (List.mem_cons_of_mem _ fk_X8_60)
  have g154 : FG Z 154 7 2 := fg_mk F (C := RX7) (T := TX7) (N := 4) in_X7 rfl (by decide) rfl (List.mem_cons_of_mem _ fk_X8_154)
  obtain ⟨hO, hL, hU, hK, hS, hT, hR0⟩ := id hB
  obtain ⟨h60, ht, htk, hn, hop, hac, hopk, Cb, hC, hCb⟩ := id hO
  obtain ⟨own, en, fa, la, l1, hA, hp⟩ := id hL
  obtain ⟨s1, s2, s3, s4⟩ := id hS
  obtain ⟨S0, hS0⟩ := id hR0.1
  obtain ⟨R, Q, q, hR, hQ, hq, hok⟩ := id hR0.2
  have kb := kd_B
  have kl := kd_Log
  have ke := kd_ents
  have ks := kd_sc0 sc204
  have ks1 := kd_sc1 sc204
  have ks2 := kd_sc2 sc204
  have ks3 := kd_sc3 sc204
  have ks4 := kd_sc4 sc204
  have kt := kd_sc0 sc329
  have kt3 := kd_sc3 sc329
  have kp := kd_PT
  have kL := kd_Ls
  have cs8 := cs_scr
  have k58 := kd_458
  have k59 := kd_459
  have kr := kd_Reg
  have km := kd_marks
  have kc := kd_codes
  have k3 := kd_cols
  have k4 := kd_prows
  have kar := kd_areas
  have kow := kd_owners
  have ken := kd_ends
  have kq := kd_queue
  have kt1 := kd_sc1 sc329
  have kt2 := kd_sc2 sc329
  refine jj_iload_n F dX8_colorLater_0 rfl ?_
  exact jj_thrS (na := 1) F X (t_refuseWrongCell_x hw (by rw [hl]; exact hst)) (gl_S mk_X8_151 vw_X8_refuseWrongCell) rfl rfl rfl (by decide +kernel) ⟨(Nat.le_of_ble_eq_true rfl), (Nat.le_of_ble_eq_true rfl)⟩ rfl rfl (Nat.le_of_ble_eq_true rfl) ⟨(Nat.le_of_ble_eq_true rfl), (Nat.le_of_ble_eq_true rfl)⟩ dX8_colorLater_1 (fun M2 h => by rw [h]; exact hB)
set_option maxRecDepth 100000 in
set_option maxHeartbeats 1000000 in
theorem t_colorLater_2 {l : Launch} {E : Ee} {M : Mm} {a : Ab} {W : Nat} (hB : RelB M a W) {c : Nat} {x : Int32} (hc : c < 256) (hw : wiB x (nI 0) (nI 1000) = false) (hst : l.stackTraces = false) : CtT l E yX8_colorLater (.code yX8_colorLater cX8_colorLater 3 (some .int) :: gl) ({ frames := 7, cells := 1, slots := 6, locals := 130 } : Room) M [.ref (E.2.2 0), .int (nI c), .int x] eIA (fun M2 => RelB M2 a W) := by
  refine ctT_of (L0 := [some (.ref (E.2.2 0)), some (.int (nI c)), some (.int x)]) hst (by decide) rfl (Nat.le_of_ble_eq_true rfl) rfl ?_
  intro Z hl hE hnl F X
  subst hE
  have in_X7 : ∀ w ∈ u_ws RX7 TX7 4, w ∈ (.code yX8_colorLater cX8_colorLater 3 (some .int) :: gl) := fun w h => List.mem_cons_of_mem _ (lay_X7 w h)
  have in_X8 : ∀ w ∈ u_ws RX8 TX8 9, w ∈ (.code yX8_colorLater cX8_colorLater 3 (some .int) :: gl) := fun w h => List.mem_cons_of_mem _ (lay_X8 w h)
  have g19 : FG Z 19 8 1 := fg_mk F (C := RX8) (T := TX8) (N := 9) in_X8 rfl (by decide) rfl (List.mem_cons_of_mem _ fk_X8_19)
  have g43 : FG Z 43 8 5 := fg_mk F (C := RX8) (T := TX8) (N := 9) in_X8 rfl (by decide) rfl (List.mem_cons_of_mem _ fk_X8_43)
  have g60 : FG Z 60 8 8 := fg_mk F (C := RX8) (T := TX8) (N := 9) in_X8 rfl (by decide) rfl (List.mem_cons_of_mem _ fk_X8_60)
  have g154 : FG Z 154 7 2 := fg_mk F (C := RX7) (T := TX7) (N := 4) in_X7 rfl (by decide) rfl (List.mem_cons_of_mem _ fk_X8_154)
  obtain ⟨hO, hL, hU, hK, hS, hT, hR0⟩ := id hB
  obtain ⟨h60, ht, htk, hn, hop, hac, hopk, Cb, hC, hCb⟩ := id hO
  obtain ⟨own, en, fa, la, l1, hA, hp⟩ := id hL
  obtain ⟨s1, s2, s3, s4⟩ := id hS
  obtain ⟨S0, hS0⟩ := id hR0.1
  obtain ⟨R, Q, q, hR, hQ, hq, hok⟩ := id hR0.2
  have kb := kd_B
  have kl := kd_Log
  have ke := kd_ents
  have ks := kd_sc0 sc204
  have ks1 := kd_sc1 sc204
  have ks2 := kd_sc2 sc204
  have ks3 := kd_sc3 sc204
  have ks4 := kd_sc4 sc204
  have kt := kd_sc0 sc329
  have kt3 := kd_sc3 sc329
  have kp := kd_PT
  have kL := kd_Ls
  have cs8 := cs_scr
  have k58 := kd_458
  have k59 := kd_459
  have kr := kd_Reg
  have km := kd_marks
  have kc := kd_codes
  have k3 := kd_cols
  have k4 := kd_prows
  have kar := kd_areas
  have kow := kd_owners
  have ken := kd_ends
  have kq := kd_queue
  have kt1 := kd_sc1 sc329
  have kt2 := kd_sc2 sc329
  refine jj_iload_n F dX8_colorLater_0 rfl ?_
  refine jj_callSv (na := 1) F (c_X8_refuseWrongCell hc) (gl_S mk_X8_151 vw_X8_refuseWrongCell) rfl rfl rfl (by decide +kernel) ⟨Nat.le_of_ble_eq_true rfl, Nat.le_of_ble_eq_true rfl⟩ rfl rfl (Nat.le_of_ble_eq_true rfl) ⟨Nat.le_of_ble_eq_true rfl, Nat.le_of_ble_eq_true rfl⟩ dX8_colorLater_1 (fun M1 hp1 => ?_)
  obtain rfl := hp1.symm
  refine jj_iload_n F dX8_colorLater_4 rfl ?_
  refine jj_if_lt F (tgt := 15) dX8_colorLater_5 (by decide) (fun h5 => ?_) (fun h5 => ?_)
  · exact jj_throwS F X (ik := 78) (is := 242) (ic := 82) (text := "ticks is not 0 to 1000") (by decide +kernel) xk_IA xi_IA xa_IA (by decide +kernel) dX8_colorLater_15 dX8_colorLater_18 dX8_colorLater_19 dX8_colorLater_21 dX8_colorLater_24 (Nat.le_of_ble_eq_true rfl) (Nat.le_of_ble_eq_true rfl) (Nat.le_of_ble_eq_true rfl) (Nat.le_of_ble_eq_true rfl) hB
  · refine jj_iload_n F dX8_colorLater_8 rfl ?_
    refine jj_sipush F (v := nI 1000) dX8_colorLater_9 (by decide) ?_
    refine jj_icmp_le F (tgt := 25) dX8_colorLater_12 (by decide) (fun h9 => absurd h9 (wi_nle hw h5)) (fun _ => ?_)
    exact jj_throwS F X (ik := 78) (is := 242) (ic := 82) (text := "ticks is not 0 to 1000") (by decide +kernel) xk_IA xi_IA xa_IA (by decide +kernel) dX8_colorLater_15 dX8_colorLater_18 dX8_colorLater_19 dX8_colorLater_21 dX8_colorLater_24 (Nat.le_of_ble_eq_true rfl) (Nat.le_of_ble_eq_true rfl) (Nat.le_of_ble_eq_true rfl) (Nat.le_of_ble_eq_true rfl) hB
set_option maxRecDepth 100000 in
set_option maxHeartbeats 1000000 in
theorem t_count_1 {l : Launch} {E : Ee} {M : Mm} {a : Ab} {W : Nat} (hB : RelB M a W) {x : Int32} (hw : wiB x (nI 0) (nI 9) = false) (hst : l.stackTraces = false) : CtT l E yX8_count (.code yX8_count cX8_count 2 (some .int) :: gl) ({ frames := 7, cells := 1, slots := 6, locals := 130 } : Room) M [.ref (E.2.2 0), .int x] eIA (fun M2 => RelB M2 a W) := by
  refine ctT_of (L0 := [some (.ref (E.2.2 0)), some (.int x)]) hst (by decide) rfl (Nat.le_of_ble_eq_true rfl) rfl ?_
  intro Z hl hE hnl F X
  subst hE
  obtain ⟨hO, hL, hU, hK, hS, hT, hR0⟩ := id hB
  obtain ⟨h60, ht, htk, hn, hop, hac, hopk, Cb, hC, hCb⟩ := id hO
  obtain ⟨own, en, fa, la, l1, hA, hp⟩ := id hL
  obtain ⟨s1, s2, s3, s4⟩ := id hS
  obtain ⟨S0, hS0⟩ := id hR0.1
  obtain ⟨R, Q, q, hR, hQ, hq, hok⟩ := id hR0.2
  have kb := kd_B
  have kl := kd_Log
  have ke := kd_ents
  have ks := kd_sc0 sc204
  have ks1 := kd_sc1 sc204
  have ks2 := kd_sc2 sc204
  have ks3 := kd_sc3 sc204
  have ks4 := kd_sc4 sc204
  have kt := kd_sc0 sc329
  have kt3 := kd_sc3 sc329
  have kp := kd_PT
  have kL := kd_Ls
  have cs8 := cs_scr
  have k58 := kd_458
  have k59 := kd_459
  have kr := kd_Reg
  have km := kd_marks
  have kc := kd_codes
  have k3 := kd_cols
  have k4 := kd_prows
  have kar := kd_areas
  have kow := kd_owners
  have ken := kd_ends
  have kq := kd_queue
  have kt1 := kd_sc1 sc329
  have kt2 := kd_sc2 sc329
  refine jj_iload_n F dX8_count_0 rfl ?_
  refine jj_if_lt F (tgt := 10) dX8_count_1 (by decide) (fun h1 => ?_) (fun h1 => ?_)
  · exact jj_throwS F X (ik := 78) (is := 251) (ic := 82) (text := "what is not 0 to 9") (by decide +kernel) xk_IA xi_IA xa_IA (by decide +kernel) dX8_count_10 dX8_count_13 dX8_count_14 dX8_count_16 dX8_count_19 (Nat.le_of_ble_eq_true rfl) (Nat.le_of_ble_eq_true rfl) (Nat.le_of_ble_eq_true rfl) (Nat.le_of_ble_eq_true rfl) hB
  · refine jj_iload_n F dX8_count_4 rfl ?_
    refine jj_bipush F (v := nI 10) dX8_count_5 (by decide) ?_
    refine jj_icmp_lt F (tgt := 20) dX8_count_7 (by decide) (fun h9 => absurd h9 (wi_nlt hw h1 (by omega))) (fun _ => ?_)
    exact jj_throwS F X (ik := 78) (is := 251) (ic := 82) (text := "what is not 0 to 9") (by decide +kernel) xk_IA xi_IA xa_IA (by decide +kernel) dX8_count_10 dX8_count_13 dX8_count_14 dX8_count_16 dX8_count_19 (Nat.le_of_ble_eq_true rfl) (Nat.le_of_ble_eq_true rfl) (Nat.le_of_ble_eq_true rfl) (Nat.le_of_ble_eq_true rfl) hB
set_option maxRecDepth 100000 in
set_option maxHeartbeats 1000000 in
theorem t_operation_1 {l : Launch} {E : Ee} {M : Mm} {a : Ab} {W : Nat} (hB : RelB M a W) {x y : Int32} (hw : wiB x (nI 0) (nI (a_n a) - nI 1) = false) (hst : l.stackTraces = false) : CtT l E yX8_operation (.code yX8_operation cX8_operation 3 (some .int) :: gl) ({ frames := 7, cells := 1, slots := 6, locals := 130 } : Room) M [.ref (E.2.2 0), .int x, .int y] eIX (fun M2 => RelB M2 a W) := by
  refine ctT_of (L0 := [some (.ref (E.2.2 0)), some (.int x), some (.int y)]) hst (by decide) rfl (Nat.le_of_ble_eq_true rfl) rfl ?_
  intro Z hl hE hnl F X
  subst hE
  obtain ⟨hO, hL, hU, hK, hS, hT, hR0⟩ := id hB
  obtain ⟨h60, ht, htk, hn, hop, hac, hopk, Cb, hC, hCb⟩ := id hO
  obtain ⟨own, en, fa, la, l1, hA, hp⟩ := id hL
  obtain ⟨s1, s2, s3, s4⟩ := id hS
  obtain ⟨S0, hS0⟩ := id hR0.1
  obtain ⟨R, Q, q, hR, hQ, hq, hok⟩ := id hR0.2
  have kb := kd_B
  have kl := kd_Log
  have ke := kd_ents
  have ks := kd_sc0 sc204
  have ks1 := kd_sc1 sc204
  have ks2 := kd_sc2 sc204
  have ks3 := kd_sc3 sc204
  have ks4 := kd_sc4 sc204
  have kt := kd_sc0 sc329
  have kt3 := kd_sc3 sc329
  have kp := kd_PT
  have kL := kd_Ls
  have cs8 := cs_scr
  have k58 := kd_458
  have k59 := kd_459
  have kr := kd_Reg
  have km := kd_marks
  have kc := kd_codes
  have k3 := kd_cols
  have k4 := kd_prows
  have kar := kd_areas
  have kow := kd_owners
  have ken := kd_ends
  have kq := kd_queue
  have kt1 := kd_sc1 sc329
  have kt2 := kd_sc2 sc329
  refine jj_aload_n F dX8_operation_0 rfl ?_
  refine jj_iload_n F dX8_operation_1 rfl ?_
  exact jj_thrV (na := 1) F X (t_refuseWrongOperation_x hB hw (by rw [hl]; exact hst)) (gl_V mk_X8_256 vw_X8_refuseWrongOperation) rfl rfl rfl (by decide +kernel) ⟨(Nat.le_of_ble_eq_true rfl), (Nat.le_of_ble_eq_true rfl)⟩ kb rfl rfl rfl (Nat.le_of_ble_eq_true rfl) ⟨(Nat.le_of_ble_eq_true rfl), (Nat.le_of_ble_eq_true rfl)⟩ dX8_operation_2 (fun M2 h => by rw [h]; exact hB)
set_option maxRecDepth 100000 in
set_option maxHeartbeats 1000000 in
theorem t_operation_2 {l : Launch} {E : Ee} {M : Mm} {a : Ab} {W : Nat} (hB : RelB M a W) {k : Nat} {x : Int32} (hk : k < a_n a) (hw : wiB x (nI 0) (nI 10) = false) (hst : l.stackTraces = false) : CtT l E yX8_operation (.code yX8_operation cX8_operation 3 (some .int) :: gl) ({ frames := 7, cells := 1, slots := 6, locals := 130 } : Room) M [.ref (E.2.2 0), .int (nI k), .int x] eIA (fun M2 => RelB M2 a W) := by
  refine ctT_of (L0 := [some (.ref (E.2.2 0)), some (.int (nI k)), some (.int x)]) hst (by decide) rfl (Nat.le_of_ble_eq_true rfl) rfl ?_
  intro Z hl hE hnl F X
  subst hE
  obtain ⟨hO, hL, hU, hK, hS, hT, hR0⟩ := id hB
  obtain ⟨h60, ht, htk, hn, hop, hac, hopk, Cb, hC, hCb⟩ := id hO
  obtain ⟨own, en, fa, la, l1, hA, hp⟩ := id hL
  obtain ⟨s1, s2, s3, s4⟩ := id hS
  obtain ⟨S0, hS0⟩ := id hR0.1
  obtain ⟨R, Q, q, hR, hQ, hq, hok⟩ := id hR0.2
  have kb := kd_B
  have kl := kd_Log
  have ke := kd_ents
  have ks := kd_sc0 sc204
  have ks1 := kd_sc1 sc204
  have ks2 := kd_sc2 sc204
  have ks3 := kd_sc3 sc204
  have ks4 := kd_sc4 sc204
  have kt := kd_sc0 sc329
  have kt3 := kd_sc3 sc329
  have kp := kd_PT
  have kL := kd_Ls
  have cs8 := cs_scr
  have k58 := kd_458
  have k59 := kd_459
  have kr := kd_Reg
  have km := kd_marks
  have kc := kd_codes
  have k3 := kd_cols
  have k4 := kd_prows
  have kar := kd_areas
  have kow := kd_owners
  have ken := kd_ends
  have kq := kd_queue
  have kt1 := kd_sc1 sc329
  have kt2 := kd_sc2 sc329
  refine jj_aload_n F dX8_operation_0 rfl ?_
  refine jj_iload_n F dX8_operation_1 rfl ?_
  refine jj_callVv (na := 1) F (c_X8_refuseWrongOperation hB hk) (gl_V mk_X8_256 vw_X8_refuseWrongOperation) rfl rfl rfl (by decide +kernel) ⟨Nat.le_of_ble_eq_true rfl, Nat.le_of_ble_eq_true rfl⟩ (by assumption) rfl rfl rfl (Nat.le_of_ble_eq_true rfl) ⟨Nat.le_of_ble_eq_true rfl, Nat.le_of_ble_eq_true rfl⟩ dX8_operation_2 (fun M2 hp2 => ?_)
  obtain rfl := hp2.symm
  refine jj_iload_n F dX8_operation_5 rfl ?_
  refine jj_if_lt F (tgt := 15) dX8_operation_6 (by decide) (fun h6 => ?_) (fun h6 => ?_)
  · exact jj_throwSW F X (ik := 78) (is := 259) (ic := 82) (text := "what is not 0 to 10") (by decide +kernel) xk_IA xi_IA xa_IA (by decide +kernel) dX8_operation_15 dX8_operation_18 dX8_operation_19 dX8_operation_22 dX8_operation_25 (Nat.le_of_ble_eq_true rfl) (Nat.le_of_ble_eq_true rfl) (Nat.le_of_ble_eq_true rfl) (Nat.le_of_ble_eq_true rfl) hB
  · refine jj_iload_n F dX8_operation_9 rfl ?_
    refine jj_bipush F (v := nI 11) dX8_operation_10 (by decide) ?_
    refine jj_icmp_lt F (tgt := 26) dX8_operation_12 (by decide) (fun h9 => absurd h9 (wi_nlt hw h6 (by omega))) (fun _ => ?_)
    exact jj_throwSW F X (ik := 78) (is := 259) (ic := 82) (text := "what is not 0 to 10") (by decide +kernel) xk_IA xi_IA xa_IA (by decide +kernel) dX8_operation_15 dX8_operation_18 dX8_operation_19 dX8_operation_22 dX8_operation_25 (Nat.le_of_ble_eq_true rfl) (Nat.le_of_ble_eq_true rfl) (Nat.le_of_ble_eq_true rfl) (Nat.le_of_ble_eq_true rfl) hB
set_option maxRecDepth 100000 in
set_option maxHeartbeats 1000000 in
theorem t_ifSwitched_1 {l : Launch} {E : Ee} {M : Mm} {a : Ab} {W : Nat} (hB : RelB M a W) {x : Int32} (hw : wiB x (nI 0) (nI (a_n a) - nI 1) = false) (hst : l.stackTraces = false) : CtT l E yX8_ifSwitched (.code yX8_ifSwitched cX8_ifSwitched 2 (some .int) :: gl) ({ frames := 7, cells := 1, slots := 6, locals := 130 } : Room) M [.ref (E.2.2 0), .int x] eIX (fun M2 => RelB M2 a W) := by
  refine ctT_of (L0 := [some (.ref (E.2.2 0)), some (.int x)]) hst (by decide) rfl (Nat.le_of_ble_eq_true rfl) rfl ?_
  intro Z hl hE hnl F X
  subst hE
  obtain ⟨hO, hL, hU, hK, hS, hT, hR0⟩ := id hB
  obtain ⟨h60, ht, htk, hn, hop, hac, hopk, Cb, hC, hCb⟩ := id hO
  obtain ⟨own, en, fa, la, l1, hA, hp⟩ := id hL
  obtain ⟨s1, s2, s3, s4⟩ := id hS
  obtain ⟨S0, hS0⟩ := id hR0.1
  obtain ⟨R, Q, q, hR, hQ, hq, hok⟩ := id hR0.2
  have kb := kd_B
  have kl := kd_Log
  have ke := kd_ents
  have ks := kd_sc0 sc204
  have ks1 := kd_sc1 sc204
  have ks2 := kd_sc2 sc204
  have ks3 := kd_sc3 sc204
  have ks4 := kd_sc4 sc204
  have kt := kd_sc0 sc329
  have kt3 := kd_sc3 sc329
  have kp := kd_PT
  have kL := kd_Ls
  have cs8 := cs_scr
  have k58 := kd_458
  have k59 := kd_459
  have kr := kd_Reg
  have km := kd_marks
  have kc := kd_codes
  have k3 := kd_cols
  have k4 := kd_prows
  have kar := kd_areas
  have kow := kd_owners
  have ken := kd_ends
  have kq := kd_queue
  have kt1 := kd_sc1 sc329
  have kt2 := kd_sc2 sc329
  refine jj_aload_n F dX8_ifSwitched_0 rfl ?_
  refine jj_iload_n F dX8_ifSwitched_1 rfl ?_
  exact jj_thrV (na := 1) F X (t_refuseWrongOperation_x hB hw (by rw [hl]; exact hst)) (gl_V mk_X8_256 vw_X8_refuseWrongOperation) rfl rfl rfl (by decide +kernel) ⟨(Nat.le_of_ble_eq_true rfl), (Nat.le_of_ble_eq_true rfl)⟩ kb rfl rfl rfl (Nat.le_of_ble_eq_true rfl) ⟨(Nat.le_of_ble_eq_true rfl), (Nat.le_of_ble_eq_true rfl)⟩ dX8_ifSwitched_2 (fun M2 h => by rw [h]; exact hB)
set_option maxRecDepth 100000 in
set_option maxHeartbeats 1000000 in
theorem t_user_1 {l : Launch} {E : Ee} {M : Mm} {a : Ab} {W : Nat} (hB : RelB M a W) {x y : Int32} (hw : wiB x (nI 0) (nI 4) = false) (hst : l.stackTraces = false) : CtT l E yX8_user (.code yX8_user cX8_user 3 (some .int) :: gl) ({ frames := 7, cells := 1, slots := 6, locals := 130 } : Room) M [.ref (E.2.2 0), .int x, .int y] eIX (fun M2 => RelB M2 a W) := by
  refine ctT_of (L0 := [some (.ref (E.2.2 0)), some (.int x), some (.int y)]) hst (by decide) rfl (Nat.le_of_ble_eq_true rfl) rfl ?_
  intro Z hl hE hnl F X
  subst hE
  obtain ⟨hO, hL, hU, hK, hS, hT, hR0⟩ := id hB
  obtain ⟨h60, ht, htk, hn, hop, hac, hopk, Cb, hC, hCb⟩ := id hO
  obtain ⟨own, en, fa, la, l1, hA, hp⟩ := id hL
  obtain ⟨s1, s2, s3, s4⟩ := id hS
  obtain ⟨S0, hS0⟩ := id hR0.1
  obtain ⟨R, Q, q, hR, hQ, hq, hok⟩ := id hR0.2
  have kb := kd_B
  have kl := kd_Log
  have ke := kd_ents
  have ks := kd_sc0 sc204
  have ks1 := kd_sc1 sc204
  have ks2 := kd_sc2 sc204
  have ks3 := kd_sc3 sc204
  have ks4 := kd_sc4 sc204
  have kt := kd_sc0 sc329
  have kt3 := kd_sc3 sc329
  have kp := kd_PT
  have kL := kd_Ls
  have cs8 := cs_scr
  have k58 := kd_458
  have k59 := kd_459
  have kr := kd_Reg
  have km := kd_marks
  have kc := kd_codes
  have k3 := kd_cols
  have k4 := kd_prows
  have kar := kd_areas
  have kow := kd_owners
  have ken := kd_ends
  have kq := kd_queue
  have kt1 := kd_sc1 sc329
  have kt2 := kd_sc2 sc329
  refine jj_iload_n F dX8_user_0 rfl ?_
  exact jj_thrS (na := 1) F X (t_refuseWrongUser_x hw (by rw [hl]; exact hst)) (gl_S mk_X8_106 vw_X8_refuseWrongUser) rfl rfl rfl (by decide +kernel) ⟨(Nat.le_of_ble_eq_true rfl), (Nat.le_of_ble_eq_true rfl)⟩ rfl rfl (Nat.le_of_ble_eq_true rfl) ⟨(Nat.le_of_ble_eq_true rfl), (Nat.le_of_ble_eq_true rfl)⟩ dX8_user_1 (fun M2 h => by rw [h]; exact hB)
set_option maxRecDepth 100000 in
set_option maxHeartbeats 1000000 in
theorem t_user_2 {l : Launch} {E : Ee} {M : Mm} {a : Ab} {W : Nat} (hB : RelB M a W) {u : Nat} {x : Int32} (hu : u < 5) (hw : wiB x (nI 0) (nI 4) = false) (hst : l.stackTraces = false) : CtT l E yX8_user (.code yX8_user cX8_user 3 (some .int) :: gl) ({ frames := 7, cells := 1, slots := 6, locals := 130 } : Room) M [.ref (E.2.2 0), .int (nI u), .int x] eIA (fun M2 => RelB M2 a W) := by
  refine ctT_of (L0 := [some (.ref (E.2.2 0)), some (.int (nI u)), some (.int x)]) hst (by decide) rfl (Nat.le_of_ble_eq_true rfl) rfl ?_
  intro Z hl hE hnl F X
  subst hE
  obtain ⟨hO, hL, hU, hK, hS, hT, hR0⟩ := id hB
  obtain ⟨h60, ht, htk, hn, hop, hac, hopk, Cb, hC, hCb⟩ := id hO
  obtain ⟨own, en, fa, la, l1, hA, hp⟩ := id hL
  obtain ⟨s1, s2, s3, s4⟩ := id hS
  obtain ⟨S0, hS0⟩ := id hR0.1
  obtain ⟨R, Q, q, hR, hQ, hq, hok⟩ := id hR0.2
  have kb := kd_B
  have kl := kd_Log
  have ke := kd_ents
  have ks := kd_sc0 sc204
  have ks1 := kd_sc1 sc204
  have ks2 := kd_sc2 sc204
  have ks3 := kd_sc3 sc204
  have ks4 := kd_sc4 sc204
  have kt := kd_sc0 sc329
  have kt3 := kd_sc3 sc329
  have kp := kd_PT
  have kL := kd_Ls
  have cs8 := cs_scr
  have k58 := kd_458
  have k59 := kd_459
  have kr := kd_Reg
  have km := kd_marks
  have kc := kd_codes
  have k3 := kd_cols
  have k4 := kd_prows
  have kar := kd_areas
  have kow := kd_owners
  have ken := kd_ends
  have kq := kd_queue
  have kt1 := kd_sc1 sc329
  have kt2 := kd_sc2 sc329
  refine jj_iload_n F dX8_user_0 rfl ?_
  refine jj_callSv (na := 1) F (c_X8_refuseWrongUser hu) (gl_S mk_X8_106 vw_X8_refuseWrongUser) rfl rfl rfl (by decide +kernel) ⟨Nat.le_of_ble_eq_true rfl, Nat.le_of_ble_eq_true rfl⟩ rfl rfl (Nat.le_of_ble_eq_true rfl) ⟨Nat.le_of_ble_eq_true rfl, Nat.le_of_ble_eq_true rfl⟩ dX8_user_1 (fun M1 hp1 => ?_)
  obtain rfl := hp1.symm
  refine jj_iload_n F dX8_user_4 rfl ?_
  refine jj_if_lt F (tgt := 13) dX8_user_5 (by decide) (fun h5 => ?_) (fun h5 => ?_)
  · exact jj_throwSW F X (ik := 78) (is := 264) (ic := 82) (text := "what is not 0 to 4") (by decide +kernel) xk_IA xi_IA xa_IA (by decide +kernel) dX8_user_13 dX8_user_16 dX8_user_17 dX8_user_20 dX8_user_23 (Nat.le_of_ble_eq_true rfl) (Nat.le_of_ble_eq_true rfl) (Nat.le_of_ble_eq_true rfl) (Nat.le_of_ble_eq_true rfl) hB
  · refine jj_iload_n F dX8_user_8 rfl ?_
    refine jj_iconst F (v := nI 5) dX8_user_9 (by decide) ?_
    refine jj_icmp_lt F (tgt := 24) dX8_user_10 (by decide) (fun h9 => absurd h9 (wi_nlt hw h5 (by omega))) (fun _ => ?_)
    exact jj_throwSW F X (ik := 78) (is := 264) (ic := 82) (text := "what is not 0 to 4") (by decide +kernel) xk_IA xi_IA xa_IA (by decide +kernel) dX8_user_13 dX8_user_16 dX8_user_17 dX8_user_20 dX8_user_23 (Nat.le_of_ble_eq_true rfl) (Nat.le_of_ble_eq_true rfl) (Nat.le_of_ble_eq_true rfl) (Nat.le_of_ble_eq_true rfl) hB
