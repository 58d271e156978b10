set_option maxRecDepth 100000 in
set_option maxHeartbeats 1000000 in
theorem c_X8_refuseWrongUser {l : Launch} {E : Ee} {M : Mm} {u : Nat} (hu : u < 5) : CtV l E yX8_refuseWrongUser (.code yX8_refuseWrongUser cX8_refuseWrongUser 1 none :: gl) ({ frames := 0, cells := 0, slots := 0, locals := 0 } : Room) M [.int (nI u)] 0 0 (fun M2 => M2 = M) := by
  refine ctV_of (L0 := [some (.int (nI u))]) (by decide) rfl (Nat.le_of_ble_eq_true rfl) rfl ?_
  intro Z hl hE hnl F ret
  subst hE
  refine jj_iload_n F dX8_refuseWrongUser_0 rfl ?_
  refine jj_if_lt F (tgt := 9) dX8_refuseWrongUser_1 (by decide) (fun h9 => absurd h9 (nI_nlt (b := 0) (Nat.zero_le _) (by omega))) (fun _ => ?_)
  refine jj_iload_n F dX8_refuseWrongUser_4 rfl ?_
  refine jj_iconst F (v := nI 5) dX8_refuseWrongUser_5 (by decide) ?_
  refine jj_icmp_lt F (tgt := 20) dX8_refuseWrongUser_6 (by decide) (fun _ => ?_) (fun h9 => absurd (nI_lt (b := 5) (by omega) (by omega)) h9)
  refine ret _ _ _ dX8_refuseWrongUser_20 ?_
  exact rfl
set_option maxRecDepth 100000 in
set_option maxHeartbeats 1000000 in
theorem c_X8_refuseWrongLayer {l : Launch} {E : Ee} {M : Mm} {u : Nat} (hu : u < 3) : CtV l E yX8_refuseWrongLayer (.code yX8_refuseWrongLayer cX8_refuseWrongLayer 1 none :: gl) ({ frames := 0, cells := 0, slots := 0, locals := 0 } : Room) M [.int (nI u)] 0 0 (fun M2 => M2 = M) := by
  refine ctV_of (L0 := [some (.int (nI u))]) (by decide) rfl (Nat.le_of_ble_eq_true rfl) rfl ?_
  intro Z hl hE hnl F ret
  subst hE
  refine jj_iload_n F dX8_refuseWrongLayer_0 rfl ?_
  refine jj_if_lt F (tgt := 9) dX8_refuseWrongLayer_1 (by decide) (fun h9 => absurd h9 (nI_nlt (b := 0) (Nat.zero_le _) (by omega))) (fun _ => ?_)
  refine jj_iload_n F dX8_refuseWrongLayer_4 rfl ?_
  refine jj_iconst F (v := nI 3) dX8_refuseWrongLayer_5 (by decide) ?_
  refine jj_icmp_lt F (tgt := 20) dX8_refuseWrongLayer_6 (by decide) (fun _ => ?_) (fun h9 => absurd (nI_lt (b := 3) (by omega) (by omega)) h9)
  refine ret _ _ _ dX8_refuseWrongLayer_20 ?_
  exact rfl
set_option maxRecDepth 100000 in
set_option maxHeartbeats 1000000 in
theorem c_X8_refuseWrongCell {l : Launch} {E : Ee} {M : Mm} {u : Nat} (hu : u < 256) : CtV l E yX8_refuseWrongCell (.code yX8_refuseWrongCell cX8_refuseWrongCell 1 none :: gl) ({ frames := 0, cells := 0, slots := 0, locals := 0 } : Room) M [.int (nI u)] 0 0 (fun M2 => M2 = M) := by
  refine ctV_of (L0 := [some (.int (nI u))]) (by decide) rfl (Nat.le_of_ble_eq_true rfl) rfl ?_
  intro Z hl hE hnl F ret
  subst hE
  refine jj_iload_n F dX8_refuseWrongCell_0 rfl ?_
  refine jj_if_lt F (tgt := 11) dX8_refuseWrongCell_1 (by decide) (fun h9 => absurd h9 (nI_nlt (b := 0) (Nat.zero_le _) (by omega))) (fun _ => ?_)
  refine jj_iload_n F dX8_refuseWrongCell_4 rfl ?_
  refine jj_sipush F (v := nI 256) dX8_refuseWrongCell_5 (by decide) ?_
  refine jj_icmp_lt F (tgt := 22) dX8_refuseWrongCell_8 (by decide) (fun _ => ?_) (fun h9 => absurd (nI_lt (b := 256) (by omega) (by omega)) h9)
  refine ret _ _ _ dX8_refuseWrongCell_22 ?_
  exact rfl
set_option maxRecDepth 100000 in
set_option maxHeartbeats 1000000 in
theorem c_X8_refuseWrongMark {l : Launch} {E : Ee} {M : Mm} {u : Nat} (hu : u < 6) : CtV l E yX8_refuseWrongMark (.code yX8_refuseWrongMark cX8_refuseWrongMark 1 none :: gl) ({ frames := 0, cells := 0, slots := 0, locals := 0 } : Room) M [.int (nI u)] 0 0 (fun M2 => M2 = M) := by
  refine ctV_of (L0 := [some (.int (nI u))]) (by decide) rfl (Nat.le_of_ble_eq_true rfl) rfl ?_
  intro Z hl hE hnl F ret
  subst hE
  refine jj_iload_n F dX8_refuseWrongMark_0 rfl ?_
  refine jj_if_lt F (tgt := 10) dX8_refuseWrongMark_1 (by decide) (fun h9 => absurd h9 (nI_nlt (b := 0) (Nat.zero_le _) (by omega))) (fun _ => ?_)
  refine jj_iload_n F dX8_refuseWrongMark_4 rfl ?_
  refine jj_bipush F (v := nI 6) dX8_refuseWrongMark_5 (by decide) ?_
  refine jj_icmp_lt F (tgt := 21) dX8_refuseWrongMark_7 (by decide) (fun _ => ?_) (fun h9 => absurd (nI_lt (b := 6) (by omega) (by omega)) h9)
  refine ret _ _ _ dX8_refuseWrongMark_21 ?_
  exact rfl
set_option maxRecDepth 100000 in
set_option maxHeartbeats 1000000 in
theorem c_X8_refuseWrongColor {l : Launch} {E : Ee} {M : Mm} {u : Nat} (h1 : 1 ≤ u) (h9 : u ≤ 9) : CtV l E yX8_refuseWrongColor (.code yX8_refuseWrongColor cX8_refuseWrongColor 1 none :: gl) ({ frames := 0, cells := 0, slots := 0, locals := 0 } : Room) M [.int (nI u)] 0 0 (fun M2 => M2 = M) := by
  refine ctV_of (L0 := [some (.int (nI u))]) (by decide) rfl (Nat.le_of_ble_eq_true rfl) rfl ?_
  intro Z hl hE hnl F ret
  subst hE
  refine jj_iload_n F dX8_refuseWrongColor_0 rfl ?_
  refine jj_iconst F (v := nI 1) dX8_refuseWrongColor_1 (by decide) ?_
  refine jj_icmp_lt F (tgt := 11) dX8_refuseWrongColor_2 (by decide) (fun h9 => absurd h9 (nI_nlt (b := 1) (by omega) (by omega))) (fun _ => ?_)
  refine jj_iload_n F dX8_refuseWrongColor_5 rfl ?_
  refine jj_bipush F (v := nI 9) dX8_refuseWrongColor_6 (by decide) ?_
  refine jj_icmp_le F (tgt := 22) dX8_refuseWrongColor_8 (by decide) (fun _ => ?_) (fun h9 => absurd (nI_le (b := 9) (by omega) (by omega)) h9)
  refine ret _ _ _ dX8_refuseWrongColor_22 ?_
  exact rfl
set_option maxRecDepth 100000 in
set_option maxHeartbeats 1000000 in
theorem c_X8_refuseWrongOperation {l : Launch} {E : Ee} {M : Mm} {a : Ab} {W : Nat} (hB : RelB M a W) {k : Nat} (hk : k < a_n a) : CtV l E yX8_refuseWrongOperation (.code yX8_refuseWrongOperation cX8_refuseWrongOperation 2 none :: gl) ({ frames := 1, cells := 0, slots := 0, locals := 21 } : Room) M [.ref (E.2.2 0), .int (nI k)] 0 0 (fun M2 => M2 = M) := by
  refine ctV_of (L0 := [some (.ref (E.2.2 0)), some (.int (nI k))]) (by decide) rfl (Nat.le_of_ble_eq_true rfl) rfl ?_
  intro Z hl hE hnl F ret
  subst hE
  have in_X8 : ∀ w ∈ u_ws RX8 TX8 9, w ∈ (.code yX8_refuseWrongOperation cX8_refuseWrongOperation 2 none :: gl) := fun w h => List.mem_cons_of_mem _ (lay_X8 w h)
  have g19 : FG Z 19 8 1 := fg_mk F (C := RX8) (T := TX8) (N := 9) in_X8 rfl (by decide) rfl (List.mem_cons_of_mem _ fk_X8_19)
  obtain ⟨hO, hL, hU, hK, hS, hT, hR0⟩ := id hB
  obtain ⟨h60, ht, htk, hn, hop, hac, hopk, Cb, hC, hCb⟩ := id hO
  obtain ⟨own, en, fa, la, l1, hA, hp⟩ := id hL
  obtain ⟨s1, s2, s3, s4⟩ := id hS
  obtain ⟨S0, hS0⟩ := id hR0.1
  obtain ⟨R, Q, q, hR, hQ, hq, hok⟩ := id hR0.2
  have kb := kd_B
  have kl := kd_Log
  have ke := kd_ents
  have ks := kd_sc0 sc204
  have ks1 := kd_sc1 sc204
  have ks2 := kd_sc2 sc204
  have ks3 := kd_sc3 sc204
  have ks4 := kd_sc4 sc204
  have kt := kd_sc0 sc329
  have kt3 := kd_sc3 sc329
  have kp := kd_PT
  have kL := kd_Ls
  have cs8 := cs_scr
  have k58 := kd_458
  have k59 := kd_459
  have kr := kd_Reg
  have km := kd_marks
  have kc := kd_codes
  have k3 := kd_cols
  have k4 := kd_prows
  have kar := kd_areas
  have kow := kd_owners
  have ken := kd_ends
  have kq := kd_queue
  have kt1 := kd_sc1 sc329
  have kt2 := kd_sc2 sc329
  refine jj_aload_n F dX8_refuseWrongOperation_0 rfl ?_
  refine jj_getr F g19 (by assumption) (by rfl) dX8_refuseWrongOperation_1 ?_
  refine jj_iload_n F dX8_refuseWrongOperation_4 rfl ?_
  refine jj_callVi (na := 1) F c_X2_contains (gl_V mk_X8_171 vw_X2_contains) rfl rfl rfl (by decide +kernel) ⟨Nat.le_of_ble_eq_true rfl, Nat.le_of_ble_eq_true rfl⟩ (by assumption) rfl rfl rfl (Nat.le_of_ble_eq_true rfl) ⟨Nat.le_of_ble_eq_true rfl, Nat.le_of_ble_eq_true rfl⟩ dX8_refuseWrongOperation_5 (fun r5 M5 hp5 => ?_)
  obtain ⟨rfl, rfl⟩ := symm2 hp5
  refine jj_if_ne F (tgt := 22) dX8_refuseWrongOperation_8 (by decide) (fun _ => ?_) (fun h9 => absurd h9 (by rw [show (decide (0 ≤ nI k) && decide (nI k < M.1 5 1)) = true by rw [hn, decide_eq_true (nI_lt hk (by omega)), decide_eq_true (show (0 : Int32) ≤ nI k from nI_le (a := 0) (Nat.zero_le _) (by omega))]; rfl]; decide))
  refine ret _ _ _ dX8_refuseWrongOperation_22 ?_
  exact rfl
/-- the text read anew, on the board -/
theorem RelB_pt {M : Mm} {a : Ab} {W : Nat} {s : Ps} (h : RelB M a W) (hs : pok s) : RelB (ptM M s) a W := by
  have ho : ∀ x, x ≠ 1 → x ≠ 3 → x ≠ 4 → (ptM M s).1 x = M.1 x := fun x h1 h3 h4 => by unfold ptM; rw [wA_n h4, wA_n h3, wA_n h1]
  obtain ⟨hO, hL, hU, hK, hS, ⟨t1, t2, t3, vals, t4, t5, t6, t7⟩, hR⟩ := h
  have hn := hO.1
  obtain ⟨o1, o2, o3, o4, o5, o6, o7, Cb, o8, o9⟩ := hO
  exact ⟨⟨o1, o2, by rw [ho 0 (by omega) (by omega) (by omega)]; exact o3, by rw [ho 5 (by omega) (by omega) (by omega)]; exact o4, fun i hi b hb => by rw [ho _ (by omega) (by omega) (by omega)]; exact o5 i hi b hb, fun i hi => by rw [ho _ (by omega) (by omega) (by omega)]; exact o6 i hi, o7, Cb, fun i hi => by rw [ho _ (by omega) (by omega) (by omega)]; exact o8 i hi, o9⟩, RelL_ag hL (fun x h1 h2 => ho x (by omega) (by omega) (by omega)), RelU_ag hU (by rw [ho 5 (by omega) (by omega) (by omega)]) (fun i hi => by rw [ho _ (by omega) (by omega) (by omega)]), RelK_ag hK (fun x hx => ho x (by omega) (by omega) (by omega)), RelS_ag hS hn (fun x h1 h2 => ho x (by omega) (by omega) (by omega)), ⟨by rw [ptM_1]; exact t1, t2, fun i hi => by rw [ho 2 (by omega) (by omega) (by omega)]; exact t3 i hi, s.2.2, ptM_3 M s, by unfold ptM; rw [wA_s], hs.2.2, fun x hx => by rw [ho x (by omega) (by omega) (by omega)]; exact t7.1 x hx, t7.2⟩, RelR_ag hR (ho 454 (by omega) (by omega) (by omega)) (ho 456 (by omega) (by omega) (by omega)) (ho 457 (by omega) (by omega) (by omega)) (ho 459 (by omega) (by omega) (by omega))⟩
set_option maxRecDepth 100000 in
set_option maxHeartbeats 1000000 in
theorem c_X8_refuseWrongPath {l : Launch} {E : Ee} {M : Mm} {a : Ab} {W : Nat} (hB : RelB M a W) (hok9 : okP a = true) : CtV l E yX8_refuseWrongPath (.code yX8_refuseWrongPath cX8_refuseWrongPath 1 none :: gl) ({ frames := 4, cells := 0, slots := 0, locals := 83 } : Room) M [.ref (E.2.2 0)] 0 0 (fun M2 => ∃ s : Ps, M2 = ptM M s ∧ pok s ∧ psE s (pvA a)) := by
  refine ctV_of (L0 := [some (.ref (E.2.2 0))]) (by decide) rfl (Nat.le_of_ble_eq_true rfl) rfl ?_
  intro Z hl hE hnl F ret
  subst hE
  have in_X8 : ∀ w ∈ u_ws RX8 TX8 9, w ∈ (.code yX8_refuseWrongPath cX8_refuseWrongPath 1 none :: gl) := fun w h => List.mem_cons_of_mem _ (lay_X8 w h)
  have g10 : FG Z 10 8 0 := fg_mk F (C := RX8) (T := TX8) (N := 9) in_X8 rfl (by decide) rfl (List.mem_cons_of_mem _ fk_X8_10)
  obtain ⟨hO, hL, hU, hK, hS, hT, hR0⟩ := id hB
  obtain ⟨h60, ht, htk, hn, hop, hac, hopk, Cb, hC, hCb⟩ := id hO
  obtain ⟨own, en, fa, la, l1, hA, hp⟩ := id hL
  obtain ⟨s1, s2, s3, s4⟩ := id hS
  obtain ⟨S0, hS0⟩ := id hR0.1
  obtain ⟨R, Q, q, hR, hQ, hq, hok⟩ := id hR0.2
  obtain ⟨ht1, ht40, ht3, vals, hv3, hv4, hvs, hgg⟩ := id hT
  obtain ⟨rd1, rd2, rd3⟩ := rd_path (a := a) (v := vals) (fun j hj => ht3 j hj)
  have kb := kd_B
  have kl := kd_Log
  have ke := kd_ents
  have ks := kd_sc0 sc204
  have ks1 := kd_sc1 sc204
  have ks2 := kd_sc2 sc204
  have ks3 := kd_sc3 sc204
  have ks4 := kd_sc4 sc204
  have kt := kd_sc0 sc329
  have kt3 := kd_sc3 sc329
  have kp := kd_PT
  have kL := kd_Ls
  have cs8 := cs_scr
  have k58 := kd_458
  have k59 := kd_459
  have kr := kd_Reg
  have km := kd_marks
  have kc := kd_codes
  have k3 := kd_cols
  have k4 := kd_prows
  have kar := kd_areas
  have kow := kd_owners
  have ken := kd_ends
  have kq := kd_queue
  have kt1 := kd_sc1 sc329
  have kt2 := kd_sc2 sc329
  refine jj_aload_n F dX8_refuseWrongPath_0 rfl ?_
  refine jj_getr F g10 (by assumption) (by rfl) dX8_refuseWrongPath_1 ?_
  refine jj_callVi (na := 0) F (c_X5_isPath (len := a_ln a) (vals := vals) ht1 ht40 hv3 hv4 hvs) (gl_V mk_X8_295 vw_X5_isPath) rfl rfl rfl (by decide +kernel) ⟨Nat.le_of_ble_eq_true rfl, Nat.le_of_ble_eq_true rfl⟩ (by assumption) rfl rfl rfl (Nat.le_of_ble_eq_true rfl) ⟨Nat.le_of_ble_eq_true rfl, Nat.le_of_ble_eq_true rfl⟩ dX8_refuseWrongPath_4 (fun r4 M4 hp4 => ?_)
  obtain ⟨rfl, rfl⟩ := symm2 hp4
  refine jj_if_ne F (tgt := 21) dX8_refuseWrongPath_7 (by decide) (fun _ => ?_) (fun h9 => absurd h9 (by rw [rd2, hok9]; decide))
  refine ret _ _ _ dX8_refuseWrongPath_21 ?_
  exact ⟨_, rfl, pok_rd (pok_0 hvs), rd3⟩
set_option maxRecDepth 100000 in
set_option maxHeartbeats 1000000 in
theorem c_X8_refuseFullLog {l : Launch} {E : Ee} {M : Mm} {n : Nat} (hn9 : M.1 5 1 = nI n) (h60n : n < 60) : CtV l E yX8_refuseFullLog (.code yX8_refuseFullLog cX8_refuseFullLog 1 none :: gl) ({ frames := 0, cells := 0, slots := 0, locals := 0 } : Room) M [.ref (E.2.2 0)] 0 0 (fun M2 => M2 = M) := by
  refine ctV_of (L0 := [some (.ref (E.2.2 0))]) (by decide) rfl (Nat.le_of_ble_eq_true rfl) rfl ?_
  intro Z hl hE hnl F ret
  subst hE
  have in_X2 : ∀ w ∈ u_ws RX2 TX2 3, w ∈ (.code yX8_refuseFullLog cX8_refuseFullLog 1 none :: gl) := fun w h => List.mem_cons_of_mem _ (lay_X2 w h)
  have in_X8 : ∀ w ∈ u_ws RX8 TX8 9, w ∈ (.code yX8_refuseFullLog cX8_refuseFullLog 1 none :: gl) := fun w h => List.mem_cons_of_mem _ (lay_X8 w h)
  have g19 : FG Z 19 8 1 := fg_mk F (C := RX8) (T := TX8) (N := 9) in_X8 rfl (by decide) rfl (List.mem_cons_of_mem _ fk_X8_19)
  have g65 : FG Z 65 2 1 := fg_mk F (C := RX2) (T := TX2) (N := 3) in_X2 rfl (by decide) rfl (List.mem_cons_of_mem _ fk_X8_65)
  have kb := kd_B
  have kl := kd_Log
  have ke := kd_ents
  have ks := kd_sc0 sc204
  have ks1 := kd_sc1 sc204
  have ks2 := kd_sc2 sc204
  have ks3 := kd_sc3 sc204
  have ks4 := kd_sc4 sc204
  have kt := kd_sc0 sc329
  have kt3 := kd_sc3 sc329
  have kp := kd_PT
  have kL := kd_Ls
  have cs8 := cs_scr
  have k58 := kd_458
  have k59 := kd_459
  have kr := kd_Reg
  have km := kd_marks
  have kc := kd_codes
  have k3 := kd_cols
  have k4 := kd_prows
  have kar := kd_areas
  have kow := kd_owners
  have ken := kd_ends
  have kq := kd_queue
  have kt1 := kd_sc1 sc329
  have kt2 := kd_sc2 sc329
  refine jj_aload_n F dX8_refuseFullLog_0 rfl ?_
  refine jj_getr F g19 (by assumption) (by rfl) dX8_refuseFullLog_1 ?_
  refine jj_geti F g65 (by assumption) (by rfl) dX8_refuseFullLog_4 ?_
  refine jj_bipush F (v := nI 60) dX8_refuseFullLog_7 (by decide) ?_
  refine jj_icmp_lt F (tgt := 23) dX8_refuseFullLog_9 (by decide) (fun _ => ?_) (fun h9 => absurd (by rw [hn9]; exact nI_lt (b := 60) h60n (by omega)) h9)
  refine ret _ _ _ dX8_refuseFullLog_23 ?_
  exact rfl
set_option maxRecDepth 100000 in
set_option maxHeartbeats 1000000 in
theorem c_X8_refuseUnsetMark {l : Launch} {E : Ee} {M : Mm} {a : Ab} {W : Nat} (hB : RelB M a W) {m : Nat} (hm : m < 6) (hs9 : (a_mk a m).1 = true) : CtV l E yX8_refuseUnsetMark (.code yX8_refuseUnsetMark cX8_refuseUnsetMark 2 none :: gl) ({ frames := 0, cells := 0, slots := 0, locals := 0 } : Room) M [.ref (E.2.2 0), .int (nI m)] 0 0 (fun M2 => M2 = M) := by
  refine ctV_of (L0 := [some (.ref (E.2.2 0)), some (.int (nI m))]) (by decide) rfl (Nat.le_of_ble_eq_true rfl) rfl ?_
  intro Z hl hE hnl F ret
  subst hE
  have in_X3 : ∀ w ∈ u_ws RX3 TX3 4, w ∈ (.code yX8_refuseUnsetMark cX8_refuseUnsetMark 2 none :: gl) := fun w h => List.mem_cons_of_mem _ (lay_X3 w h)
  have in_X8 : ∀ w ∈ u_ws RX8 TX8 9, w ∈ (.code yX8_refuseUnsetMark cX8_refuseUnsetMark 2 none :: gl) := fun w h => List.mem_cons_of_mem _ (lay_X8 w h)
  have g32 : FG Z 32 8 3 := fg_mk F (C := RX8) (T := TX8) (N := 9) in_X8 rfl (by decide) rfl (List.mem_cons_of_mem _ fk_X8_32)
  have g71 : FG Z 71 3 0 := fg_mk F (C := RX3) (T := TX3) (N := 4) in_X3 rfl (by decide) rfl (List.mem_cons_of_mem _ fk_X8_71)
  obtain ⟨hO, hL, hU, hK, hS, hT, hR0⟩ := id hB
  obtain ⟨h60, ht, htk, hn, hop, hac, hopk, Cb, hC, hCb⟩ := id hO
  obtain ⟨own, en, fa, la, l1, hA, hp⟩ := id hL
  obtain ⟨s1, s2, s3, s4⟩ := id hS
  obtain ⟨S0, hS0⟩ := id hR0.1
  obtain ⟨R, Q, q, hR, hQ, hq, hok⟩ := id hR0.2
  have kb := kd_B
  have kl := kd_Log
  have ke := kd_ents
  have ks := kd_sc0 sc204
  have ks1 := kd_sc1 sc204
  have ks2 := kd_sc2 sc204
  have ks3 := kd_sc3 sc204
  have ks4 := kd_sc4 sc204
  have kt := kd_sc0 sc329
  have kt3 := kd_sc3 sc329
  have kp := kd_PT
  have kL := kd_Ls
  have cs8 := cs_scr
  have k58 := kd_458
  have k59 := kd_459
  have kr := kd_Reg
  have km := kd_marks
  have kc := kd_codes
  have k3 := kd_cols
  have k4 := kd_prows
  have kar := kd_areas
  have kow := kd_owners
  have ken := kd_ends
  have kq := kd_queue
  have kt1 := kd_sc1 sc329
  have kt2 := kd_sc2 sc329
  have km0 := kd_mk0 m hm
  refine jj_aload_n F dX8_refuseUnsetMark_0 rfl ?_
  refine jj_getr F g32 (by assumption) (by rfl) dX8_refuseUnsetMark_1 ?_
  refine jj_iload_n F dX8_refuseUnsetMark_4 rfl ?_
  refine jj_aald F (by assumption) rfl (by omega) dX8_refuseUnsetMark_5 ?_
  refine jj_geti F g71 (by assumption) (by rfl) dX8_refuseUnsetMark_6 ?_
  refine jj_if_ne F (tgt := 23) dX8_refuseUnsetMark_9 (by decide) (fun _ => ?_) (fun h9 => absurd h9 (by rw [(hK m hm).1, hs9]; decide))
  refine ret _ _ _ dX8_refuseUnsetMark_23 ?_
  exact rfl
set_option maxRecDepth 100000 in
set_option maxHeartbeats 1000000 in
theorem b_show {l : Launch} {E : Ee} {M : Mm} {a : Ab} {W : Nat} (hP : RelP M a W) : CtV l E yX8_showNow (.code yX8_showNow cX8_showNow 1 none :: gl) ({ frames := 4, cells := 0, slots := 0, locals := 95 } : Room) M [.ref (E.2.2 0)] 0 0 (fun M2 => RelB M2 a W) := by
  refine ctV_of (L0 := [some (.ref (E.2.2 0))]) (by decide) rfl (Nat.le_of_ble_eq_true rfl) rfl ?_
  intro Z hl hE hnl F ret
  subst hE
  have in_X8 : ∀ w ∈ u_ws RX8 TX8 9, w ∈ (.code yX8_showNow cX8_showNow 1 none :: gl) := fun w h => List.mem_cons_of_mem _ (lay_X8 w h)
  have g19 : FG Z 19 8 1 := fg_mk F (C := RX8) (T := TX8) (N := 9) in_X8 rfl (by decide) rfl (List.mem_cons_of_mem _ fk_X8_19)
  have g39 : FG Z 39 8 4 := fg_mk F (C := RX8) (T := TX8) (N := 9) in_X8 rfl (by decide) rfl (List.mem_cons_of_mem _ fk_X8_39)
  have g60 : FG Z 60 8 8 := fg_mk F (C := RX8) (T := TX8) (N := 9) in_X8 rfl (by decide) rfl (List.mem_cons_of_mem _ fk_X8_60)
  have kb := kd_B
  have kl := kd_Log
  have ke := kd_ents
  have ks := kd_sc0 sc204
  have ks1 := kd_sc1 sc204
  have ks2 := kd_sc2 sc204
  have ks3 := kd_sc3 sc204
  have ks4 := kd_sc4 sc204
  have kt := kd_sc0 sc329
  have kt3 := kd_sc3 sc329
  have kp := kd_PT
  have kL := kd_Ls
  have cs8 := cs_scr
  have k58 := kd_458
  have k59 := kd_459
  have kr := kd_Reg
  have km := kd_marks
  have kc := kd_codes
  have k3 := kd_cols
  have k4 := kd_prows
  have kar := kd_areas
  have kow := kd_owners
  have ken := kd_ends
  have kq := kd_queue
  have kt1 := kd_sc1 sc329
  have kt2 := kd_sc2 sc329
  obtain ⟨h609, -, htk9, hn9, -, -, -, Cb9, hC9, hCb9⟩ := id hP.1
  refine jj_aload_n F dX8_showNow_0 rfl ?_
  refine jj_getr F g39 (by assumption) (by rfl) dX8_showNow_1 ?_
  refine jj_aload_n F dX8_showNow_4 rfl ?_
  refine jj_getr F g19 (by assumption) (by rfl) dX8_showNow_5 ?_
  refine jj_aload_n F dX8_showNow_8 rfl ?_
  refine jj_geti F g60 (by assumption) (by rfl) dX8_showNow_9 ?_
  refine jj_iconst F (v := -1) dX8_showNow_12 (by decide) ?_
  refine jj_callVv (na := 3) F (c_X7_show (C := Cb9) sc204 hn9 h609 hC9) (gl_V mk_X8_244 vw_X7_show) rfl rfl rfl (by decide +kernel) ⟨Nat.le_of_ble_eq_true rfl, Nat.le_of_ble_eq_true rfl⟩ (by assumption) rfl rfl rfl (Nat.le_of_ble_eq_true rfl) ⟨Nat.le_of_ble_eq_true rfl, Nat.le_of_ble_eq_true rfl⟩ dX8_showNow_13 (fun M13 hp13 => ?_)
  obtain rfl := hp13.symm
  refine ret _ _ _ dX8_showNow_16 ?_
  rw [htk9]
  exact RelB_show hP hC9 hCb9
set_option maxRecDepth 100000 in
set_option maxHeartbeats 1000000 in
theorem b_color_0 {l : Launch} {E : Ee} {M : Mm} {a : Ab} {W : Nat} (hB : RelB M a W) {c : Nat} (hc : c < 256) : CtI l E yX8_color (.code yX8_color cX8_color 2 (some .int) :: gl) ({ frames := 1, cells := 0, slots := 0, locals := 20 } : Room) M [.ref (E.2.2 0), .int (nI c)] 0 0 (fun r M2 => r = clA a c ∧ RelB M2 a W) := by
  refine ctI_of (L0 := [some (.ref (E.2.2 0)), some (.int (nI c))]) (by decide) rfl (Nat.le_of_ble_eq_true rfl) rfl ?_
  intro Z hl hE hnl F ret
  subst hE
  have in_X7 : ∀ w ∈ u_ws RX7 TX7 4, w ∈ (.code yX8_color cX8_color 2 (some .int) :: gl) := fun w h => List.mem_cons_of_mem _ (lay_X7 w h)
  have in_X8 : ∀ w ∈ u_ws RX8 TX8 9, w ∈ (.code yX8_color cX8_color 2 (some .int) :: gl) := fun w h => List.mem_cons_of_mem _ (lay_X8 w h)
  have g39 : FG Z 39 8 4 := fg_mk F (C := RX8) (T := TX8) (N := 9) in_X8 rfl (by decide) rfl (List.mem_cons_of_mem _ fk_X8_39)
  have g154 : FG Z 154 7 2 := fg_mk F (C := RX7) (T := TX7) (N := 4) in_X7 rfl (by decide) rfl (List.mem_cons_of_mem _ fk_X8_154)
  obtain ⟨hO, hL, hU, hK, hS, hT, hR0⟩ := id hB
  obtain ⟨h60, ht, htk, hn, hop, hac, hopk, Cb, hC, hCb⟩ := id hO
  obtain ⟨own, en, fa, la, l1, hA, hp⟩ := id hL
  obtain ⟨s1, s2, s3, s4⟩ := id hS
  obtain ⟨S0, hS0⟩ := id hR0.1
  obtain ⟨R, Q, q, hR, hQ, hq, hok⟩ := id hR0.2
  have kb := kd_B
  have kl := kd_Log
  have ke := kd_ents
  have ks := kd_sc0 sc204
  have ks1 := kd_sc1 sc204
  have ks2 := kd_sc2 sc204
  have ks3 := kd_sc3 sc204
  have ks4 := kd_sc4 sc204
  have kt := kd_sc0 sc329
  have kt3 := kd_sc3 sc329
  have kp := kd_PT
  have kL := kd_Ls
  have cs8 := cs_scr
  have k58 := kd_458
  have k59 := kd_459
  have kr := kd_Reg
  have km := kd_marks
  have kc := kd_codes
  have k3 := kd_cols
  have k4 := kd_prows
  have kar := kd_areas
  have kow := kd_owners
  have ken := kd_ends
  have kq := kd_queue
  have kt1 := kd_sc1 sc329
  have kt2 := kd_sc2 sc329
  refine jj_iload_n F dX8_color_0 rfl ?_
  refine jj_callSv (na := 1) F (c_X8_refuseWrongCell hc) (gl_S mk_X8_151 vw_X8_refuseWrongCell) rfl rfl rfl (by decide +kernel) ⟨Nat.le_of_ble_eq_true rfl, Nat.le_of_ble_eq_true rfl⟩ rfl rfl (Nat.le_of_ble_eq_true rfl) ⟨Nat.le_of_ble_eq_true rfl, Nat.le_of_ble_eq_true rfl⟩ dX8_color_1 (fun M1 hp1 => ?_)
  obtain rfl := hp1.symm
  refine jj_aload_n F dX8_color_4 rfl ?_
  refine jj_getr F g39 (by assumption) (by rfl) dX8_color_5 ?_
  refine jj_getr F g154 (by assumption) (by rfl) dX8_color_8 ?_
  refine jj_iload_n F dX8_color_11 rfl ?_
  refine jj_iald F (by assumption) rfl (by omega) dX8_color_12 ?_
  refine ret _ _ _ _ dX8_color_13 (by first | rfl | exact nar_z (by first | exact Or.inl rfl | exact Or.inr rfl | exact b2i_01 _ | assumption)) ?_
  exact ⟨congrFun s3 c, hB⟩
set_option maxRecDepth 100000 in
set_option maxHeartbeats 1000000 in
theorem b_top_0 {l : Launch} {E : Ee} {M : Mm} {a : Ab} {W : Nat} (hB : RelB M a W) {c : Nat} (hc : c < 256) : CtI l E yX8_top (.code yX8_top cX8_top 2 (some .int) :: gl) ({ frames := 1, cells := 0, slots := 0, locals := 20 } : Room) M [.ref (E.2.2 0), .int (nI c)] 0 0 (fun r M2 => r = tpA a c ∧ RelB M2 a W) := by
  refine ctI_of (L0 := [some (.ref (E.2.2 0)), some (.int (nI c))]) (by decide) rfl (Nat.le_of_ble_eq_true rfl) rfl ?_
  intro Z hl hE hnl F ret
  subst hE
  have in_X7 : ∀ w ∈ u_ws RX7 TX7 4, w ∈ (.code yX8_top cX8_top 2 (some .int) :: gl) := fun w h => List.mem_cons_of_mem _ (lay_X7 w h)
  have in_X8 : ∀ w ∈ u_ws RX8 TX8 9, w ∈ (.code yX8_top cX8_top 2 (some .int) :: gl) := fun w h => List.mem_cons_of_mem _ (lay_X8 w h)
  have g39 : FG Z 39 8 4 := fg_mk F (C := RX8) (T := TX8) (N := 9) in_X8 rfl (by decide) rfl (List.mem_cons_of_mem _ fk_X8_39)
  have g248 : FG Z 248 7 1 := fg_mk F (C := RX7) (T := TX7) (N := 4) in_X7 rfl (by decide) rfl (List.mem_cons_of_mem _ fk_X8_248)
  obtain ⟨hO, hL, hU, hK, hS, hT, hR0⟩ := id hB
  obtain ⟨h60, ht, htk, hn, hop, hac, hopk, Cb, hC, hCb⟩ := id hO
  obtain ⟨own, en, fa, la, l1, hA, hp⟩ := id hL
  obtain ⟨s1, s2, s3, s4⟩ := id hS
  obtain ⟨S0, hS0⟩ := id hR0.1
  obtain ⟨R, Q, q, hR, hQ, hq, hok⟩ := id hR0.2
  have kb := kd_B
  have kl := kd_Log
  have ke := kd_ents
  have ks := kd_sc0 sc204
  have ks1 := kd_sc1 sc204
  have ks2 := kd_sc2 sc204
  have ks3 := kd_sc3 sc204
  have ks4 := kd_sc4 sc204
  have kt := kd_sc0 sc329
  have kt3 := kd_sc3 sc329
  have kp := kd_PT
  have kL := kd_Ls
  have cs8 := cs_scr
  have k58 := kd_458
  have k59 := kd_459
  have kr := kd_Reg
  have km := kd_marks
  have kc := kd_codes
  have k3 := kd_cols
  have k4 := kd_prows
  have kar := kd_areas
  have kow := kd_owners
  have ken := kd_ends
  have kq := kd_queue
  have kt1 := kd_sc1 sc329
  have kt2 := kd_sc2 sc329
  refine jj_iload_n F dX8_top_0 rfl ?_
  refine jj_callSv (na := 1) F (c_X8_refuseWrongCell hc) (gl_S mk_X8_151 vw_X8_refuseWrongCell) rfl rfl rfl (by decide +kernel) ⟨Nat.le_of_ble_eq_true rfl, Nat.le_of_ble_eq_true rfl⟩ rfl rfl (Nat.le_of_ble_eq_true rfl) ⟨Nat.le_of_ble_eq_true rfl, Nat.le_of_ble_eq_true rfl⟩ dX8_top_1 (fun M1 hp1 => ?_)
  obtain rfl := hp1.symm
  refine jj_aload_n F dX8_top_4 rfl ?_
  refine jj_getr F g39 (by assumption) (by rfl) dX8_top_5 ?_
  refine jj_getr F g248 (by assumption) (by rfl) dX8_top_8 ?_
  refine jj_iload_n F dX8_top_11 rfl ?_
  refine jj_iald F (by assumption) rfl (by omega) dX8_top_12 ?_
  refine ret _ _ _ _ dX8_top_13 (by first | rfl | exact nar_z (by first | exact Or.inl rfl | exact Or.inr rfl | exact b2i_01 _ | assumption)) ?_
  exact ⟨congrFun s2 c, hB⟩
set_option maxRecDepth 100000 in
set_option maxHeartbeats 1000000 in
theorem b_count_0 {l : Launch} {E : Ee} {M : Mm} {a : Ab} {W : Nat} (hB : RelB M a W) {w : Nat} (hw9 : w < 10) : CtI l E yX8_count (.code yX8_count cX8_count 2 (some .int) :: gl) ({ frames := 6, cells := 0, slots := 0, locals := 136 } : Room) M [.ref (E.2.2 0), .int (nI w)] 0 0 (fun r M2 => r = bpA a w ∧ RelB M2 a W) := by
  refine ctI_of (L0 := [some (.ref (E.2.2 0)), some (.int (nI w))]) (by decide) rfl (Nat.le_of_ble_eq_true rfl) rfl ?_
  intro Z hl hE hnl F ret
  subst hE
  obtain ⟨hO, hL, hU, hK, hS, hT, hR0⟩ := id hB
  obtain ⟨h60, ht, htk, hn, hop, hac, hopk, Cb, hC, hCb⟩ := id hO
  obtain ⟨own, en, fa, la, l1, hA, hp⟩ := id hL
  obtain ⟨s1, s2, s3, s4⟩ := id hS
  obtain ⟨S0, hS0⟩ := id hR0.1
  obtain ⟨R, Q, q, hR, hQ, hq, hok⟩ := id hR0.2
  have kb := kd_B
  have kl := kd_Log
  have ke := kd_ents
  have ks := kd_sc0 sc204
  have ks1 := kd_sc1 sc204
  have ks2 := kd_sc2 sc204
  have ks3 := kd_sc3 sc204
  have ks4 := kd_sc4 sc204
  have kt := kd_sc0 sc329
  have kt3 := kd_sc3 sc329
  have kp := kd_PT
  have kL := kd_Ls
  have cs8 := cs_scr
  have k58 := kd_458
  have k59 := kd_459
  have kr := kd_Reg
  have km := kd_marks
  have kc := kd_codes
  have k3 := kd_cols
  have k4 := kd_prows
  have kar := kd_areas
  have kow := kd_owners
  have ken := kd_ends
  have kq := kd_queue
  have kt1 := kd_sc1 sc329
  have kt2 := kd_sc2 sc329
  refine jj_iload_n F dX8_count_0 rfl ?_
  refine jj_if_lt F (tgt := 10) dX8_count_1 (by decide) (fun h9 => absurd h9 (nI_nlt (b := 0) (Nat.zero_le _) (by omega))) (fun _ => ?_)
  refine jj_iload_n F dX8_count_4 rfl ?_
  refine jj_bipush F (v := nI 10) dX8_count_5 (by decide) ?_
  refine jj_icmp_lt F (tgt := 20) dX8_count_7 (by decide) (fun _ => ?_) (fun h9 => absurd (nI_lt (b := 10) (by omega) (by omega)) h9)
  refine jj_aload_n F dX8_count_20 rfl ?_
  refine jj_iload_n F dX8_count_21 rfl ?_
  refine jj_callVi (na := 1) F (c_X8_boardProperty hB hw9) (gl_V mk_X8_253 vw_X8_boardProperty) rfl rfl rfl (by decide +kernel) ⟨Nat.le_of_ble_eq_true rfl, Nat.le_of_ble_eq_true rfl⟩ (by assumption) rfl rfl rfl (Nat.le_of_ble_eq_true rfl) ⟨Nat.le_of_ble_eq_true rfl, Nat.le_of_ble_eq_true rfl⟩ dX8_count_22 (fun r22 M22 hp22 => ?_)
  refine ret _ _ _ _ dX8_count_25 (by first | rfl | exact nar_z (by first | exact Or.inl rfl | exact Or.inr rfl | exact b2i_01 _ | assumption)) ?_
  exact hp22
set_option maxRecDepth 100000 in
set_option maxHeartbeats 1000000 in
theorem b_operation_0 {l : Launch} {E : Ee} {M : Mm} {a : Ab} {W : Nat} (hB : RelB M a W) {k w : Nat} (hk : k < a_n a) (hw9 : w < 11) : CtI l E yX8_operation (.code yX8_operation cX8_operation 3 (some .int) :: gl) ({ frames := 5, cells := 0, slots := 0, locals := 116 } : Room) M [.ref (E.2.2 0), .int (nI k), .int (nI w)] 0 0 (fun r M2 => r = opA a k w ∧ RelB M2 a W) := by
  refine ctI_of (L0 := [some (.ref (E.2.2 0)), some (.int (nI k)), some (.int (nI w))]) (by decide) rfl (Nat.le_of_ble_eq_true rfl) rfl ?_
  intro Z hl hE hnl F ret
  subst hE
  obtain ⟨hO, hL, hU, hK, hS, hT, hR0⟩ := id hB
  obtain ⟨h60, ht, htk, hn, hop, hac, hopk, Cb, hC, hCb⟩ := id hO
  obtain ⟨own, en, fa, la, l1, hA, hp⟩ := id hL
  obtain ⟨s1, s2, s3, s4⟩ := id hS
  obtain ⟨S0, hS0⟩ := id hR0.1
  obtain ⟨R, Q, q, hR, hQ, hq, hok⟩ := id hR0.2
  have kb := kd_B
  have kl := kd_Log
  have ke := kd_ents
  have ks := kd_sc0 sc204
  have ks1 := kd_sc1 sc204
  have ks2 := kd_sc2 sc204
  have ks3 := kd_sc3 sc204
  have ks4 := kd_sc4 sc204
  have kt := kd_sc0 sc329
  have kt3 := kd_sc3 sc329
  have kp := kd_PT
  have kL := kd_Ls
  have cs8 := cs_scr
  have k58 := kd_458
  have k59 := kd_459
  have kr := kd_Reg
  have km := kd_marks
  have kc := kd_codes
  have k3 := kd_cols
  have k4 := kd_prows
  have kar := kd_areas
  have kow := kd_owners
  have ken := kd_ends
  have kq := kd_queue
  have kt1 := kd_sc1 sc329
  have kt2 := kd_sc2 sc329
  refine jj_aload_n F dX8_operation_0 rfl ?_
  refine jj_iload_n F dX8_operation_1 rfl ?_
  refine jj_callVv (na := 1) F (c_X8_refuseWrongOperation hB hk) (gl_V mk_X8_256 vw_X8_refuseWrongOperation) rfl rfl rfl (by decide +kernel) ⟨Nat.le_of_ble_eq_true rfl, Nat.le_of_ble_eq_true rfl⟩ (by assumption) rfl rfl rfl (Nat.le_of_ble_eq_true rfl) ⟨Nat.le_of_ble_eq_true rfl, Nat.le_of_ble_eq_true rfl⟩ dX8_operation_2 (fun M2 hp2 => ?_)
  obtain rfl := hp2.symm
  refine jj_iload_n F dX8_operation_5 rfl ?_
  refine jj_if_lt F (tgt := 15) dX8_operation_6 (by decide) (fun h9 => absurd h9 (nI_nlt (b := 0) (Nat.zero_le _) (by omega))) (fun _ => ?_)
  refine jj_iload_n F dX8_operation_9 rfl ?_
  refine jj_bipush F (v := nI 11) dX8_operation_10 (by decide) ?_
  refine jj_icmp_lt F (tgt := 26) dX8_operation_12 (by decide) (fun _ => ?_) (fun h9 => absurd (nI_lt (b := 11) (by omega) (by omega)) h9)
  refine jj_aload_n F dX8_operation_26 rfl ?_
  refine jj_iload_n F dX8_operation_27 rfl ?_
  refine jj_iload_n F dX8_operation_28 rfl ?_
  refine jj_callVi (na := 2) F (c_X8_operationProperty hB hk hw9) (gl_V mk_X8_261 vw_X8_operationProperty) rfl rfl rfl (by decide +kernel) ⟨Nat.le_of_ble_eq_true rfl, Nat.le_of_ble_eq_true rfl⟩ (by assumption) rfl rfl rfl (Nat.le_of_ble_eq_true rfl) ⟨Nat.le_of_ble_eq_true rfl, Nat.le_of_ble_eq_true rfl⟩ dX8_operation_29 (fun r29 M29 hp29 => ?_)
  refine ret _ _ _ _ dX8_operation_32 (by first | rfl | exact nar_z (by first | exact Or.inl rfl | exact Or.inr rfl | exact b2i_01 _ | assumption)) ?_
  exact hp29
set_option maxRecDepth 100000 in
set_option maxHeartbeats 1000000 in
theorem b_user_0 {l : Launch} {E : Ee} {M : Mm} {a : Ab} {W : Nat} (hB : RelB M a W) {u w : Nat} (hu : u < 5) (hw9 : w < 5) (hWW : W < 1000) : CtI l E yX8_user (.code yX8_user cX8_user 3 (some .int) :: gl) ({ frames := 2, cells := 0, slots := 0, locals := 46 } : Room) M [.ref (E.2.2 0), .int (nI u), .int (nI w)] 0 0 (fun r M2 => r = usA a u w ∧ RelB M2 a W) := by
  refine ctI_of (L0 := [some (.ref (E.2.2 0)), some (.int (nI u)), some (.int (nI w))]) (by decide) rfl (Nat.le_of_ble_eq_true rfl) rfl ?_
  intro Z hl hE hnl F ret
  subst hE
  obtain ⟨hO, hL, hU, hK, hS, hT, hR0⟩ := id hB
  obtain ⟨h60, ht, htk, hn, hop, hac, hopk, Cb, hC, hCb⟩ := id hO
  obtain ⟨own, en, fa, la, l1, hA, hp⟩ := id hL
  obtain ⟨s1, s2, s3, s4⟩ := id hS
  obtain ⟨S0, hS0⟩ := id hR0.1
  obtain ⟨R, Q, q, hR, hQ, hq, hok⟩ := id hR0.2
  have kb := kd_B
  have kl := kd_Log
  have ke := kd_ents
  have ks := kd_sc0 sc204
  have ks1 := kd_sc1 sc204
  have ks2 := kd_sc2 sc204
  have ks3 := kd_sc3 sc204
  have ks4 := kd_sc4 sc204
  have kt := kd_sc0 sc329
  have kt3 := kd_sc3 sc329
  have kp := kd_PT
  have kL := kd_Ls
  have cs8 := cs_scr
  have k58 := kd_458
  have k59 := kd_459
  have kr := kd_Reg
  have km := kd_marks
  have kc := kd_codes
  have k3 := kd_cols
  have k4 := kd_prows
  have kar := kd_areas
  have kow := kd_owners
  have ken := kd_ends
  have kq := kd_queue
  have kt1 := kd_sc1 sc329
  have kt2 := kd_sc2 sc329
  refine jj_iload_n F dX8_user_0 rfl ?_
  refine jj_callSv (na := 1) F (c_X8_refuseWrongUser hu) (gl_S mk_X8_106 vw_X8_refuseWrongUser) rfl rfl rfl (by decide +kernel) ⟨Nat.le_of_ble_eq_true rfl, Nat.le_of_ble_eq_true rfl⟩ rfl rfl (Nat.le_of_ble_eq_true rfl) ⟨Nat.le_of_ble_eq_true rfl, Nat.le_of_ble_eq_true rfl⟩ dX8_user_1 (fun M1 hp1 => ?_)
  obtain rfl := hp1.symm
  refine jj_iload_n F dX8_user_4 rfl ?_
  refine jj_if_lt F (tgt := 13) dX8_user_5 (by decide) (fun h9 => absurd h9 (nI_nlt (b := 0) (Nat.zero_le _) (by omega))) (fun _ => ?_)
  refine jj_iload_n F dX8_user_8 rfl ?_
  refine jj_iconst F (v := nI 5) dX8_user_9 (by decide) ?_
  refine jj_icmp_lt F (tgt := 24) dX8_user_10 (by decide) (fun _ => ?_) (fun h9 => absurd (nI_lt (b := 5) (by omega) (by omega)) h9)
  refine jj_aload_n F dX8_user_24 rfl ?_
  refine jj_iload_n F dX8_user_25 rfl ?_
  refine jj_iload_n F dX8_user_26 rfl ?_
  refine jj_callVi (na := 2) F (c_X8_userProperty hB hu hw9 hWW) (gl_V mk_X8_266 vw_X8_userProperty) rfl rfl rfl (by decide +kernel) ⟨Nat.le_of_ble_eq_true rfl, Nat.le_of_ble_eq_true rfl⟩ (by assumption) rfl rfl rfl (Nat.le_of_ble_eq_true rfl) ⟨Nat.le_of_ble_eq_true rfl, Nat.le_of_ble_eq_true rfl⟩ dX8_user_27 (fun r27 M27 hp27 => ?_)
  refine ret _ _ _ _ dX8_user_30 (by first | rfl | exact nar_z (by first | exact Or.inl rfl | exact Or.inr rfl | exact b2i_01 _ | assumption)) ?_
  exact hp27
set_option maxRecDepth 100000 in
set_option maxHeartbeats 1000000 in
theorem b_holder_0 {l : Launch} {E : Ee} {M : Mm} {a : Ab} {W : Nat} (hB : RelB M a W) {c : Nat} (hc : c < 256) : CtI l E yX8_holder (.code yX8_holder cX8_holder 2 (some .int) :: gl) ({ frames := 2, cells := 0, slots := 0, locals := 45 } : Room) M [.ref (E.2.2 0), .int (nI c)] 0 0 (fun r M2 => IsHol (a_lk a) c r ∧ RelB M2 a W) := by
  refine ctI_of (L0 := [some (.ref (E.2.2 0)), some (.int (nI c))]) (by decide) rfl (Nat.le_of_ble_eq_true rfl) rfl ?_
  intro Z hl hE hnl F ret
  subst hE
  have in_X8 : ∀ w ∈ u_ws RX8 TX8 9, w ∈ (.code yX8_holder cX8_holder 2 (some .int) :: gl) := fun w h => List.mem_cons_of_mem _ (lay_X8 w h)
  have g26 : FG Z 26 8 2 := fg_mk F (C := RX8) (T := TX8) (N := 9) in_X8 rfl (by decide) rfl (List.mem_cons_of_mem _ fk_X8_26)
  have g60 : FG Z 60 8 8 := fg_mk F (C := RX8) (T := TX8) (N := 9) in_X8 rfl (by decide) rfl (List.mem_cons_of_mem _ fk_X8_60)
  obtain ⟨hO, hL, hU, hK, hS, hT, hR0⟩ := id hB
  obtain ⟨h60, ht, htk, hn, hop, hac, hopk, Cb, hC, hCb⟩ := id hO
  obtain ⟨own, en, fa, la, l1, hA, hp⟩ := id hL
  obtain ⟨s1, s2, s3, s4⟩ := id hS
  obtain ⟨S0, hS0⟩ := id hR0.1
  obtain ⟨R, Q, q, hR, hQ, hq, hok⟩ := id hR0.2
  have kb := kd_B
  have kl := kd_Log
  have ke := kd_ents
  have ks := kd_sc0 sc204
  have ks1 := kd_sc1 sc204
  have ks2 := kd_sc2 sc204
  have ks3 := kd_sc3 sc204
  have ks4 := kd_sc4 sc204
  have kt := kd_sc0 sc329
  have kt3 := kd_sc3 sc329
  have kp := kd_PT
  have kL := kd_Ls
  have cs8 := cs_scr
  have k58 := kd_458
  have k59 := kd_459
  have kr := kd_Reg
  have km := kd_marks
  have kc := kd_codes
  have k3 := kd_cols
  have k4 := kd_prows
  have kar := kd_areas
  have kow := kd_owners
  have ken := kd_ends
  have kq := kd_queue
  have kt1 := kd_sc1 sc329
  have kt2 := kd_sc2 sc329
  refine jj_iload_n F dX8_holder_0 rfl ?_
  refine jj_callSv (na := 1) F (c_X8_refuseWrongCell hc) (gl_S mk_X8_151 vw_X8_refuseWrongCell) rfl rfl rfl (by decide +kernel) ⟨Nat.le_of_ble_eq_true rfl, Nat.le_of_ble_eq_true rfl⟩ rfl rfl (Nat.le_of_ble_eq_true rfl) ⟨Nat.le_of_ble_eq_true rfl, Nat.le_of_ble_eq_true rfl⟩ dX8_holder_1 (fun M1 hp1 => ?_)
  obtain rfl := hp1.symm
  refine jj_aload_n F dX8_holder_4 rfl ?_
  refine jj_getr F g26 (by assumption) (by rfl) dX8_holder_5 ?_
  refine jj_iload_n F dX8_holder_8 rfl ?_
  refine jj_aload_n F dX8_holder_9 rfl ?_
  refine jj_geti F g60 (by assumption) (by rfl) dX8_holder_10 ?_
  rw [htk]
  refine jj_callVi (na := 2) F (c_X1_lowestOwner (A := fun j => rect (fa j) (la j)) hA hc) (gl_V mk_X8_219 vw_X1_lowestOwner) rfl rfl rfl (by decide +kernel) ⟨Nat.le_of_ble_eq_true rfl, Nat.le_of_ble_eq_true rfl⟩ (by assumption) rfl rfl rfl (Nat.le_of_ble_eq_true rfl) ⟨Nat.le_of_ble_eq_true rfl, Nat.le_of_ble_eq_true rfl⟩ dX8_holder_13 (fun r13 M13 hp13 => ?_)
  obtain ⟨rfl, rfl⟩ := symm2 hp13
  refine ret _ _ _ _ dX8_holder_16 (by first | rfl | exact nar_z (by first | exact Or.inl rfl | exact Or.inr rfl | exact b2i_01 _ | assumption)) ?_
  exact ⟨low_is (by omega) l1 hp, hB⟩
set_option maxRecDepth 100000 in
set_option maxHeartbeats 1000000 in
theorem b_replay_0 {l : Launch} {E : Ee} {M : Mm} {a : Ab} {W : Nat} (hB : RelB M a W) {m c : Nat} (hm : m < 6) (hc : c < 256) (hs9 : (a_mk a m).1 = true) : CtI l E yX8_replay (.code yX8_replay cX8_replay 3 (some .int) :: gl) ({ frames := 1, cells := 0, slots := 0, locals := 21 } : Room) M [.ref (E.2.2 0), .int (nI m), .int (nI c)] 0 0 (fun r M2 => r = mcA a m c ∧ RelB M2 a W) := by
  refine ctI_of (L0 := [some (.ref (E.2.2 0)), some (.int (nI m)), some (.int (nI c))]) (by decide) rfl (Nat.le_of_ble_eq_true rfl) rfl ?_
  intro Z hl hE hnl F ret
  subst hE
  have in_X3 : ∀ w ∈ u_ws RX3 TX3 4, w ∈ (.code yX8_replay cX8_replay 3 (some .int) :: gl) := fun w h => List.mem_cons_of_mem _ (lay_X3 w h)
  have in_X8 : ∀ w ∈ u_ws RX8 TX8 9, w ∈ (.code yX8_replay cX8_replay 3 (some .int) :: gl) := fun w h => List.mem_cons_of_mem _ (lay_X8 w h)
  have g32 : FG Z 32 8 3 := fg_mk F (C := RX8) (T := TX8) (N := 9) in_X8 rfl (by decide) rfl (List.mem_cons_of_mem _ fk_X8_32)
  have g232 : FG Z 232 3 3 := fg_mk F (C := RX3) (T := TX3) (N := 4) in_X3 rfl (by decide) rfl (List.mem_cons_of_mem _ fk_X8_232)
  obtain ⟨hO, hL, hU, hK, hS, hT, hR0⟩ := id hB
  obtain ⟨h60, ht, htk, hn, hop, hac, hopk, Cb, hC, hCb⟩ := id hO
  obtain ⟨own, en, fa, la, l1, hA, hp⟩ := id hL
  obtain ⟨s1, s2, s3, s4⟩ := id hS
  obtain ⟨S0, hS0⟩ := id hR0.1
  obtain ⟨R, Q, q, hR, hQ, hq, hok⟩ := id hR0.2
  have kb := kd_B
  have kl := kd_Log
  have ke := kd_ents
  have ks := kd_sc0 sc204
  have ks1 := kd_sc1 sc204
  have ks2 := kd_sc2 sc204
  have ks3 := kd_sc3 sc204
  have ks4 := kd_sc4 sc204
  have kt := kd_sc0 sc329
  have kt3 := kd_sc3 sc329
  have kp := kd_PT
  have kL := kd_Ls
  have cs8 := cs_scr
  have k58 := kd_458
  have k59 := kd_459
  have kr := kd_Reg
  have km := kd_marks
  have kc := kd_codes
  have k3 := kd_cols
  have k4 := kd_prows
  have kar := kd_areas
  have kow := kd_owners
  have ken := kd_ends
  have kq := kd_queue
  have kt1 := kd_sc1 sc329
  have kt2 := kd_sc2 sc329
  have km0 := kd_mk0 m hm
  have km1 := kd_mk1 m hm
  have km2 := kd_mk2 m hm
  obtain ⟨mk1, mk2, mk3, mk4⟩ := (hK m hm).2 hs9
  refine jj_iload_n F dX8_replay_0 rfl ?_
  refine jj_callSv (na := 1) F (c_X8_refuseWrongMark hm) (gl_S mk_X8_222 vw_X8_refuseWrongMark) rfl rfl rfl (by decide +kernel) ⟨Nat.le_of_ble_eq_true rfl, Nat.le_of_ble_eq_true rfl⟩ rfl rfl (Nat.le_of_ble_eq_true rfl) ⟨Nat.le_of_ble_eq_true rfl, Nat.le_of_ble_eq_true rfl⟩ dX8_replay_1 (fun M1 hp1 => ?_)
  obtain rfl := hp1.symm
  refine jj_iload_n F dX8_replay_4 rfl ?_
  refine jj_callSv (na := 1) F (c_X8_refuseWrongCell hc) (gl_S mk_X8_151 vw_X8_refuseWrongCell) rfl rfl rfl (by decide +kernel) ⟨Nat.le_of_ble_eq_true rfl, Nat.le_of_ble_eq_true rfl⟩ rfl rfl (Nat.le_of_ble_eq_true rfl) ⟨Nat.le_of_ble_eq_true rfl, Nat.le_of_ble_eq_true rfl⟩ dX8_replay_5 (fun M5 hp5 => ?_)
  obtain rfl := hp5.symm
  refine jj_aload_n F dX8_replay_8 rfl ?_
  refine jj_iload_n F dX8_replay_9 rfl ?_
  refine jj_callVv (na := 1) F (c_X8_refuseUnsetMark hB hm hs9) (gl_V mk_X8_229 vw_X8_refuseUnsetMark) rfl rfl rfl (by decide +kernel) ⟨Nat.le_of_ble_eq_true rfl, Nat.le_of_ble_eq_true rfl⟩ (by assumption) rfl rfl rfl (Nat.le_of_ble_eq_true rfl) ⟨Nat.le_of_ble_eq_true rfl, Nat.le_of_ble_eq_true rfl⟩ dX8_replay_10 (fun M10 hp10 => ?_)
  obtain rfl := hp10.symm
  refine jj_aload_n F dX8_replay_13 rfl ?_
  refine jj_getr F g32 (by assumption) (by rfl) dX8_replay_14 ?_
  refine jj_iload_n F dX8_replay_17 rfl ?_
  refine jj_aald F (by assumption) rfl (by omega) dX8_replay_18 ?_
  refine jj_getr F g232 (by assumption) (by rfl) dX8_replay_19 ?_
  refine jj_iload_n F dX8_replay_22 rfl ?_
  refine jj_iald F (by assumption) rfl (by omega) dX8_replay_23 ?_
  refine ret _ _ _ _ dX8_replay_24 (by first | rfl | exact nar_z (by first | exact Or.inl rfl | exact Or.inr rfl | exact b2i_01 _ | assumption)) ?_
  exact ⟨mk4 c hc, hB⟩
set_option maxRecDepth 100000 in
set_option maxHeartbeats 1000000 in
theorem b_difference_0 {l : Launch} {E : Ee} {M : Mm} {a : Ab} {W : Nat} (hB : RelB M a W) {m : Nat} (hm : m < 6) (hs9 : (a_mk a m).1 = true) : CtI l E yX8_difference (.code yX8_difference cX8_difference 2 (some .int) :: gl) ({ frames := 1, cells := 0, slots := 0, locals := 23 } : Room) M [.ref (E.2.2 0), .int (nI m)] 0 0 (fun r M2 => r = nI (dfC (clA a) (mcA a m)) ∧ RelB M2 a W) := by
  refine ctI_of (L0 := [some (.ref (E.2.2 0)), some (.int (nI m))]) (by decide) rfl (Nat.le_of_ble_eq_true rfl) rfl ?_
  intro Z hl hE hnl F ret
  subst hE
  have in_X3 : ∀ w ∈ u_ws RX3 TX3 4, w ∈ (.code yX8_difference cX8_difference 2 (some .int) :: gl) := fun w h => List.mem_cons_of_mem _ (lay_X3 w h)
  have in_X7 : ∀ w ∈ u_ws RX7 TX7 4, w ∈ (.code yX8_difference cX8_difference 2 (some .int) :: gl) := fun w h => List.mem_cons_of_mem _ (lay_X7 w h)
  have in_X8 : ∀ w ∈ u_ws RX8 TX8 9, w ∈ (.code yX8_difference cX8_difference 2 (some .int) :: gl) := fun w h => List.mem_cons_of_mem _ (lay_X8 w h)
  have g32 : FG Z 32 8 3 := fg_mk F (C := RX8) (T := TX8) (N := 9) in_X8 rfl (by decide) rfl (List.mem_cons_of_mem _ fk_X8_32)
  have g39 : FG Z 39 8 4 := fg_mk F (C := RX8) (T := TX8) (N := 9) in_X8 rfl (by decide) rfl (List.mem_cons_of_mem _ fk_X8_39)
  have g154 : FG Z 154 7 2 := fg_mk F (C := RX7) (T := TX7) (N := 4) in_X7 rfl (by decide) rfl (List.mem_cons_of_mem _ fk_X8_154)
  have g232 : FG Z 232 3 3 := fg_mk F (C := RX3) (T := TX3) (N := 4) in_X3 rfl (by decide) rfl (List.mem_cons_of_mem _ fk_X8_232)
  obtain ⟨hO, hL, hU, hK, hS, hT, hR0⟩ := id hB
  obtain ⟨h60, ht, htk, hn, hop, hac, hopk, Cb, hC, hCb⟩ := id hO
  obtain ⟨own, en, fa, la, l1, hA, hp⟩ := id hL
  obtain ⟨s1, s2, s3, s4⟩ := id hS
  obtain ⟨S0, hS0⟩ := id hR0.1
  obtain ⟨R, Q, q, hR, hQ, hq, hok⟩ := id hR0.2
  have kb := kd_B
  have kl := kd_Log
  have ke := kd_ents
  have ks := kd_sc0 sc204
  have ks1 := kd_sc1 sc204
  have ks2 := kd_sc2 sc204
  have ks3 := kd_sc3 sc204
  have ks4 := kd_sc4 sc204
  have kt := kd_sc0 sc329
  have kt3 := kd_sc3 sc329
  have kp := kd_PT
  have kL := kd_Ls
  have cs8 := cs_scr
  have k58 := kd_458
  have k59 := kd_459
  have kr := kd_Reg
  have km := kd_marks
  have kc := kd_codes
  have k3 := kd_cols
  have k4 := kd_prows
  have kar := kd_areas
  have kow := kd_owners
  have ken := kd_ends
  have kq := kd_queue
  have kt1 := kd_sc1 sc329
  have kt2 := kd_sc2 sc329
  have km0 := kd_mk0 m hm
  have km1 := kd_mk1 m hm
  have km2 := kd_mk2 m hm
  obtain ⟨mk1, mk2, mk3, mk4⟩ := (hK m hm).2 hs9
  refine jj_iload_n F dX8_difference_0 rfl ?_
  refine jj_callSv (na := 1) F (c_X8_refuseWrongMark hm) (gl_S mk_X8_222 vw_X8_refuseWrongMark) rfl rfl rfl (by decide +kernel) ⟨Nat.le_of_ble_eq_true rfl, Nat.le_of_ble_eq_true rfl⟩ rfl rfl (Nat.le_of_ble_eq_true rfl) ⟨Nat.le_of_ble_eq_true rfl, Nat.le_of_ble_eq_true rfl⟩ dX8_difference_1 (fun M1 hp1 => ?_)
  obtain rfl := hp1.symm
  refine jj_aload_n F dX8_difference_4 rfl ?_
  refine jj_iload_n F dX8_difference_5 rfl ?_
  refine jj_callVv (na := 1) F (c_X8_refuseUnsetMark hB hm hs9) (gl_V mk_X8_229 vw_X8_refuseUnsetMark) rfl rfl rfl (by decide +kernel) ⟨Nat.le_of_ble_eq_true rfl, Nat.le_of_ble_eq_true rfl⟩ (by assumption) rfl rfl rfl (Nat.le_of_ble_eq_true rfl) ⟨Nat.le_of_ble_eq_true rfl, Nat.le_of_ble_eq_true rfl⟩ dX8_difference_6 (fun M6 hp6 => ?_)
  obtain rfl := hp6.symm
  refine jj_aload_n F dX8_difference_9 rfl ?_
  refine jj_getr F g39 (by assumption) (by rfl) dX8_difference_10 ?_
  refine jj_getr F g154 (by assumption) (by rfl) dX8_difference_13 ?_
  refine jj_aload_n F dX8_difference_16 rfl ?_
  refine jj_getr F g32 (by assumption) (by rfl) dX8_difference_17 ?_
  refine jj_iload_n F dX8_difference_20 rfl ?_
  refine jj_aald F (by assumption) rfl (by omega) dX8_difference_21 ?_
  refine jj_getr F g232 (by assumption) (by rfl) dX8_difference_22 ?_
  refine jj_callSi (na := 2) F (c_X8_changedCells (by assumption) (by assumption)) (gl_S mk_X8_233 vw_X8_changedCells) rfl rfl rfl (by decide +kernel) ⟨Nat.le_of_ble_eq_true rfl, Nat.le_of_ble_eq_true rfl⟩ rfl rfl (Nat.le_of_ble_eq_true rfl) ⟨Nat.le_of_ble_eq_true rfl, Nat.le_of_ble_eq_true rfl⟩ dX8_difference_25 (fun r25 M25 hp25 => ?_)
  obtain ⟨rfl, rfl⟩ := symm2 hp25
  refine ret _ _ _ _ dX8_difference_28 (by first | rfl | exact nar_z (by first | exact Or.inl rfl | exact Or.inr rfl | exact b2i_01 _ | assumption)) ?_
  refine ⟨?_, hB⟩
  show nI (dfC (M.1 207) (M.1 (460 + 3 * m + 2))) = _
  rw [dfC_cong (fun c _ => congrFun s3 c) mk4]
set_option maxRecDepth 100000 in
set_option maxHeartbeats 1000000 in
theorem b_colorLater_0 {l : Launch} {E : Ee} {M : Mm} {a : Ab} {W : Nat} (hB : RelB M a W) {c k : Nat} (hc : c < 256) (hk : k ≤ 1000) : CtI l E yX8_colorLater (.code yX8_colorLater cX8_colorLater 3 (some .int) :: gl) ({ frames := 4, cells := 0, slots := 0, locals := 95 } : Room) M [.ref (E.2.2 0), .int (nI c), .int (nI k)] 0 0 (fun r M2 => r = colA (a_op a) (a_C a) (a_ac a) (a_n a) (nI (a_t a + k)) c ∧ RelB M2 a W) := by
  refine ctI_of (L0 := [some (.ref (E.2.2 0)), some (.int (nI c)), some (.int (nI k))]) (by decide) rfl (Nat.le_of_ble_eq_true rfl) rfl ?_
  intro Z hl hE hnl F ret
  subst hE
  have in_X7 : ∀ w ∈ u_ws RX7 TX7 4, w ∈ (.code yX8_colorLater cX8_colorLater 3 (some .int) :: gl) := fun w h => List.mem_cons_of_mem _ (lay_X7 w h)
  have in_X8 : ∀ w ∈ u_ws RX8 TX8 9, w ∈ (.code yX8_colorLater cX8_colorLater 3 (some .int) :: gl) := fun w h => List.mem_cons_of_mem _ (lay_X8 w h)
  have g19 : FG Z 19 8 1 := fg_mk F (C := RX8) (T := TX8) (N := 9) in_X8 rfl (by decide) rfl (List.mem_cons_of_mem _ fk_X8_19)
  have g43 : FG Z 43 8 5 := fg_mk F (C := RX8) (T := TX8) (N := 9) in_X8 rfl (by decide) rfl (List.mem_cons_of_mem _ fk_X8_43)
  have g60 : FG Z 60 8 8 := fg_mk F (C := RX8) (T := TX8) (N := 9) in_X8 rfl (by decide) rfl (List.mem_cons_of_mem _ fk_X8_60)
  have g154 : FG Z 154 7 2 := fg_mk F (C := RX7) (T := TX7) (N := 4) in_X7 rfl (by decide) rfl (List.mem_cons_of_mem _ fk_X8_154)
  obtain ⟨hO, hL, hU, hK, hS, hT, hR0⟩ := id hB
  obtain ⟨h60, ht, htk, hn, hop, hac, hopk, Cb, hC, hCb⟩ := id hO
  obtain ⟨own, en, fa, la, l1, hA, hp⟩ := id hL
  obtain ⟨s1, s2, s3, s4⟩ := id hS
  obtain ⟨S0, hS0⟩ := id hR0.1
  obtain ⟨R, Q, q, hR, hQ, hq, hok⟩ := id hR0.2
  have kb := kd_B
  have kl := kd_Log
  have ke := kd_ents
  have ks := kd_sc0 sc204
  have ks1 := kd_sc1 sc204
  have ks2 := kd_sc2 sc204
  have ks3 := kd_sc3 sc204
  have ks4 := kd_sc4 sc204
  have kt := kd_sc0 sc329
  have kt3 := kd_sc3 sc329
  have kp := kd_PT
  have kL := kd_Ls
  have cs8 := cs_scr
  have k58 := kd_458
  have k59 := kd_459
  have kr := kd_Reg
  have km := kd_marks
  have kc := kd_codes
  have k3 := kd_cols
  have k4 := kd_prows
  have kar := kd_areas
  have kow := kd_owners
  have ken := kd_ends
  have kq := kd_queue
  have kt1 := kd_sc1 sc329
  have kt2 := kd_sc2 sc329
  have hgo : ∀ i, i < a_n a → goB M (-1) i = a_ac a i := fun i hi => goB_m1 (by omega) (hac i hi)
  refine jj_iload_n F dX8_colorLater_0 rfl ?_
  refine jj_callSv (na := 1) F (c_X8_refuseWrongCell hc) (gl_S mk_X8_151 vw_X8_refuseWrongCell) rfl rfl rfl (by decide +kernel) ⟨Nat.le_of_ble_eq_true rfl, Nat.le_of_ble_eq_true rfl⟩ rfl rfl (Nat.le_of_ble_eq_true rfl) ⟨Nat.le_of_ble_eq_true rfl, Nat.le_of_ble_eq_true rfl⟩ dX8_colorLater_1 (fun M1 hp1 => ?_)
  obtain rfl := hp1.symm
  refine jj_iload_n F dX8_colorLater_4 rfl ?_
  refine jj_if_lt F (tgt := 15) dX8_colorLater_5 (by decide) (fun h9 => absurd h9 (nI_nlt (b := 0) (Nat.zero_le _) (by omega))) (fun _ => ?_)
  refine jj_iload_n F dX8_colorLater_8 rfl ?_
  refine jj_sipush F (v := nI 1000) dX8_colorLater_9 (by decide) ?_
  refine jj_icmp_le F (tgt := 25) dX8_colorLater_12 (by decide) (fun _ => ?_) (fun h9 => absurd (nI_le (b := 1000) (by omega) (by omega)) h9)
  refine jj_aload_n F dX8_colorLater_25 rfl ?_
  refine jj_getr F g43 (by assumption) (by rfl) dX8_colorLater_26 ?_
  refine jj_aload_n F dX8_colorLater_29 rfl ?_
  refine jj_getr F g19 (by assumption) (by rfl) dX8_colorLater_30 ?_
  refine jj_aload_n F dX8_colorLater_33 rfl ?_
  refine jj_geti F g60 (by assumption) (by rfl) dX8_colorLater_34 ?_
  rw [htk]
  refine jj_iload_n F dX8_colorLater_37 rfl ?_
  refine jj_iadd F dX8_colorLater_38 ?_
  rw [nI_add]
  refine jj_iconst F (v := -1) dX8_colorLater_39 (by decide) ?_
  refine jj_callVv (na := 3) F (c_X7_show (C := Cb) sc329 hn h60 hC) (gl_V mk_X8_244 vw_X7_show) rfl rfl rfl (by decide +kernel) ⟨Nat.le_of_ble_eq_true rfl, Nat.le_of_ble_eq_true rfl⟩ (by assumption) rfl rfl rfl (Nat.le_of_ble_eq_true rfl) ⟨Nat.le_of_ble_eq_true rfl, Nat.le_of_ble_eq_true rfl⟩ dX8_colorLater_40 (fun M40 hp40 => ?_)
  obtain rfl := hp40.symm
  refine jj_aload_n F dX8_colorLater_43 rfl ?_
  refine jj_getr F g43 (by assumption) (by rfl) dX8_colorLater_44 ?_
  refine jj_getr F g154 (by assumption) (by rfl) dX8_colorLater_47 ?_
  refine jj_iload_n F dX8_colorLater_50 rfl ?_
  refine jj_iald F (by assumption) rfl (by omega) dX8_colorLater_51 ?_
  refine ret _ _ _ _ dX8_colorLater_52 (by first | rfl | exact nar_z (by first | exact Or.inl rfl | exact Or.inr rfl | exact b2i_01 _ | assumption)) ?_
  refine ⟨?_, RelB_sup hB h60⟩
  show (shM M 329 Cb (a_n a) (nI (a_t a + k)) (-1)).1 (329 + 3) c = _
  rw [shM_3, (shTop_eq hop hCb hgo).2]
set_option maxRecDepth 100000 in
set_option maxHeartbeats 1000000 in
theorem b_ifSwitched_0 {l : Launch} {E : Ee} {M : Mm} {a : Ab} {W : Nat} (hB : RelB M a W) {k : Nat} (hk : k < a_n a) : CtI l E yX8_ifSwitched (.code yX8_ifSwitched cX8_ifSwitched 2 (some .int) :: gl) ({ frames := 5, cells := 0, slots := 0, locals := 116 } : Room) M [.ref (E.2.2 0), .int (nI k)] 0 0 (fun r M2 => r = nI (dfC (clA a) (colA (a_op a) (a_C a) (fun i => if i = k then !a_ac a i else a_ac a i) (a_n a) (nI (a_t a)))) ∧ RelB M2 a W) := by
  refine ctI_of (L0 := [some (.ref (E.2.2 0)), some (.int (nI k))]) (by decide) rfl (Nat.le_of_ble_eq_true rfl) rfl ?_
  intro Z hl hE hnl F ret
  subst hE
  obtain ⟨hO, hL, hU, hK, hS, hT, hR0⟩ := id hB
  obtain ⟨h60, ht, htk, hn, hop, hac, hopk, Cb, hC, hCb⟩ := id hO
  obtain ⟨own, en, fa, la, l1, hA, hp⟩ := id hL
  obtain ⟨s1, s2, s3, s4⟩ := id hS
  obtain ⟨S0, hS0⟩ := id hR0.1
  obtain ⟨R, Q, q, hR, hQ, hq, hok⟩ := id hR0.2
  have kb := kd_B
  have kl := kd_Log
  have ke := kd_ents
  have ks := kd_sc0 sc204
  have ks1 := kd_sc1 sc204
  have ks2 := kd_sc2 sc204
  have ks3 := kd_sc3 sc204
  have ks4 := kd_sc4 sc204
  have kt := kd_sc0 sc329
  have kt3 := kd_sc3 sc329
  have kp := kd_PT
  have kL := kd_Ls
  have cs8 := cs_scr
  have k58 := kd_458
  have k59 := kd_459
  have kr := kd_Reg
  have km := kd_marks
  have kc := kd_codes
  have k3 := kd_cols
  have k4 := kd_prows
  have kar := kd_areas
  have kow := kd_owners
  have ken := kd_ends
  have kq := kd_queue
  have kt1 := kd_sc1 sc329
  have kt2 := kd_sc2 sc329
  have hgo : ∀ i, i < a_n a → goB M (nI k) i = (if i = k then !a_ac a i else a_ac a i) := fun i hi => goB_sw (by omega) (by omega) (hac i hi)
  refine jj_aload_n F dX8_ifSwitched_0 rfl ?_
  refine jj_iload_n F dX8_ifSwitched_1 rfl ?_
  refine jj_callVv (na := 1) F (c_X8_refuseWrongOperation hB hk) (gl_V mk_X8_256 vw_X8_refuseWrongOperation) rfl rfl rfl (by decide +kernel) ⟨Nat.le_of_ble_eq_true rfl, Nat.le_of_ble_eq_true rfl⟩ (by assumption) rfl rfl rfl (Nat.le_of_ble_eq_true rfl) ⟨Nat.le_of_ble_eq_true rfl, Nat.le_of_ble_eq_true rfl⟩ dX8_ifSwitched_2 (fun M2 hp2 => ?_)
  obtain rfl := hp2.symm
  refine jj_aload_n F dX8_ifSwitched_5 rfl ?_
  refine jj_iload_n F dX8_ifSwitched_6 rfl ?_
  refine jj_callVi (na := 1) F (c_X8_changedBySwitching (C := Cb) hn h60 hC) (gl_V mk_X8_147 vw_X8_changedBySwitching) rfl rfl rfl (by decide +kernel) ⟨Nat.le_of_ble_eq_true rfl, Nat.le_of_ble_eq_true rfl⟩ (by assumption) rfl rfl rfl (Nat.le_of_ble_eq_true rfl) ⟨Nat.le_of_ble_eq_true rfl, Nat.le_of_ble_eq_true rfl⟩ dX8_ifSwitched_7 (fun r7 M7 hp7 => ?_)
  obtain ⟨rfl, rfl⟩ := symm2 hp7
  refine ret _ _ _ _ dX8_ifSwitched_10 (by first | rfl | exact nar_z (by first | exact Or.inl rfl | exact Or.inr rfl | exact b2i_01 _ | assumption)) ?_
  refine ⟨?_, RelB_sup hB h60⟩
  rw [s3, htk, (shTop_eq (go := fun i => if i = k then !a_ac a i else a_ac a i) hop hCb hgo).2]
set_option maxRecDepth 100000 in
set_option maxHeartbeats 1000000 in
theorem b_firstError_0 {l : Launch} {E : Ee} {M : Mm} {a : Ab} {W : Nat} (hB : RelB M a W)  : CtI l E yX8_firstError (.code yX8_firstError cX8_firstError 1 (some .int) :: gl) ({ frames := 3, cells := 0, slots := 0, locals := 63 } : Room) M [.ref (E.2.2 0)] 0 0 (fun r M2 => r = feA a ∧ RelB M2 a W) := by
  refine ctI_of (L0 := [some (.ref (E.2.2 0))]) (by decide) rfl (Nat.le_of_ble_eq_true rfl) rfl ?_
  intro Z hl hE hnl F ret
  subst hE
  have in_X8 : ∀ w ∈ u_ws RX8 TX8 9, w ∈ (.code yX8_firstError cX8_firstError 1 (some .int) :: gl) := fun w h => List.mem_cons_of_mem _ (lay_X8 w h)
  have g10 : FG Z 10 8 0 := fg_mk F (C := RX8) (T := TX8) (N := 9) in_X8 rfl (by decide) rfl (List.mem_cons_of_mem _ fk_X8_10)
  obtain ⟨hO, hL, hU, hK, hS, hT, hR0⟩ := id hB
  obtain ⟨h60, ht, htk, hn, hop, hac, hopk, Cb, hC, hCb⟩ := id hO
  obtain ⟨own, en, fa, la, l1, hA, hp⟩ := id hL
  obtain ⟨s1, s2, s3, s4⟩ := id hS
  obtain ⟨S0, hS0⟩ := id hR0.1
  obtain ⟨R, Q, q, hR, hQ, hq, hok⟩ := id hR0.2
  have kb := kd_B
  have kl := kd_Log
  have ke := kd_ents
  have ks := kd_sc0 sc204
  have ks1 := kd_sc1 sc204
  have ks2 := kd_sc2 sc204
  have ks3 := kd_sc3 sc204
  have ks4 := kd_sc4 sc204
  have kt := kd_sc0 sc329
  have kt3 := kd_sc3 sc329
  have kp := kd_PT
  have kL := kd_Ls
  have cs8 := cs_scr
  have k58 := kd_458
  have k59 := kd_459
  have kr := kd_Reg
  have km := kd_marks
  have kc := kd_codes
  have k3 := kd_cols
  have k4 := kd_prows
  have kar := kd_areas
  have kow := kd_owners
  have ken := kd_ends
  have kq := kd_queue
  have kt1 := kd_sc1 sc329
  have kt2 := kd_sc2 sc329
  obtain ⟨ht1, ht40, ht3, vals, hv3, hv4, hvs, hgg⟩ := id hT
  obtain ⟨rd1, rd2, rd3⟩ := rd_path (a := a) (v := vals) (fun j hj => ht3 j hj)
  refine jj_aload_n F dX8_firstError_0 rfl ?_
  refine jj_getr F g10 (by assumption) (by rfl) dX8_firstError_1 ?_
  refine jj_callVi (na := 0) F (c_X5_readToError (len := a_ln a) (vals := vals) ht1 ht40 hv3 hv4 hvs) (gl_V mk_X8_102 vw_X5_readToError) rfl rfl rfl (by decide +kernel) ⟨Nat.le_of_ble_eq_true rfl, Nat.le_of_ble_eq_true rfl⟩ (by assumption) rfl rfl rfl (Nat.le_of_ble_eq_true rfl) ⟨Nat.le_of_ble_eq_true rfl, Nat.le_of_ble_eq_true rfl⟩ dX8_firstError_4 (fun r4 M4 hp4 => ?_)
  obtain ⟨rfl, rfl⟩ := symm2 hp4
  refine ret _ _ _ _ dX8_firstError_7 (by first | rfl | exact nar_z (by first | exact Or.inl rfl | exact Or.inr rfl | exact b2i_01 _ | assumption)) ?_
  refine ⟨?_, RelB_pt hB (pok_rd (pok_0 hvs))⟩
  rw [rd1]
