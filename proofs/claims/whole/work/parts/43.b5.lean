set_option maxRecDepth 100000 in
set_option maxHeartbeats 1000000 in
theorem b_clear_0 {l : Launch} {E : Ee} {M : Mm} {a : Ab} {W : Nat} (hB : RelB M a W)  : CtI l E yX8_clear (.code yX8_clear cX8_clear 3 (some .int) :: gl) ({ frames := 5, cells := 0, slots := 0, locals := 115 } : Room) M [.ref (E.2.2 0)] 0 0 (fun r M2 => r = nI (a_n a) ∧ RelB M2 (clrA a) W) := by
  refine ctI_of (L0 := [some (.ref (E.2.2 0)), none, none]) (by decide) rfl (Nat.le_of_ble_eq_true rfl) rfl ?_
  intro Z hl hE hnl F ret
  subst hE
  have in_X2 : ∀ w ∈ u_ws RX2 TX2 3, w ∈ (.code yX8_clear cX8_clear 3 (some .int) :: gl) := fun w h => List.mem_cons_of_mem _ (lay_X2 w h)
  have in_X3 : ∀ w ∈ u_ws RX3 TX3 4, w ∈ (.code yX8_clear cX8_clear 3 (some .int) :: gl) := fun w h => List.mem_cons_of_mem _ (lay_X3 w h)
  have in_X8 : ∀ w ∈ u_ws RX8 TX8 9, w ∈ (.code yX8_clear cX8_clear 3 (some .int) :: gl) := fun w h => List.mem_cons_of_mem _ (lay_X8 w h)
  have g19 : FG Z 19 8 1 := fg_mk F (C := RX8) (T := TX8) (N := 9) in_X8 rfl (by decide) rfl (List.mem_cons_of_mem _ fk_X8_19)
  have g26 : FG Z 26 8 2 := fg_mk F (C := RX8) (T := TX8) (N := 9) in_X8 rfl (by decide) rfl (List.mem_cons_of_mem _ fk_X8_26)
  have g32 : FG Z 32 8 3 := fg_mk F (C := RX8) (T := TX8) (N := 9) in_X8 rfl (by decide) rfl (List.mem_cons_of_mem _ fk_X8_32)
  have g65 : FG Z 65 2 1 := fg_mk F (C := RX2) (T := TX2) (N := 3) in_X2 rfl (by decide) rfl (List.mem_cons_of_mem _ fk_X8_65)
  have p60 : FP Z 60 8 8 .int := fp_mk F (C := RX8) (T := TX8) (N := 9) in_X8 tyX8_ok nmX8 rfl (by decide) rfl (List.mem_cons_of_mem _ fk_X8_60) rfl (by decide +kernel)
  have p65 : FP Z 65 2 1 .int := fp_mk F (C := RX2) (T := TX2) (N := 3) in_X2 tyX2_ok nmX2 rfl (by decide) rfl (List.mem_cons_of_mem _ fk_X8_65) rfl (by decide +kernel)
  have p71 : FP Z 71 3 0 .boolean := fp_mk F (C := RX3) (T := TX3) (N := 4) in_X3 tyX3_ok nmX3 rfl (by decide) rfl (List.mem_cons_of_mem _ fk_X8_71) rfl (by decide +kernel)
  obtain ⟨hO, hL, hU, hK, hS, hT, hR0⟩ := id hB
  obtain ⟨h60, ht, htk, hn, hop, hac, hopk, Cb, hC, hCb⟩ := id hO
  obtain ⟨own, en, fa, la, l1, hA, hp⟩ := id hL
  obtain ⟨s1, s2, s3, s4⟩ := id hS
  obtain ⟨S0, hS0⟩ := id hR0.1
  obtain ⟨R, Q, q, hR, hQ, hq, hok⟩ := id hR0.2
  have kb := kd_B
  have kl := kd_Log
  have ke := kd_ents
  have ks := kd_sc0 sc204
  have ks1 := kd_sc1 sc204
  have ks2 := kd_sc2 sc204
  have ks3 := kd_sc3 sc204
  have ks4 := kd_sc4 sc204
  have kt := kd_sc0 sc329
  have kt3 := kd_sc3 sc329
  have kp := kd_PT
  have kL := kd_Ls
  have cs8 := cs_scr
  have k58 := kd_458
  have k59 := kd_459
  have kr := kd_Reg
  have km := kd_marks
  have kc := kd_codes
  have k3 := kd_cols
  have k4 := kd_prows
  have kar := kd_areas
  have kow := kd_owners
  have ken := kd_ends
  have kq := kd_queue
  have kt1 := kd_sc1 sc329
  have kt2 := kd_sc2 sc329
  have km0 := kd_mk0
  have l1 : ∀ i, i ≤ 6 → JJ Z (0, 0) (fam 460 3 i (fun m => upd (M.1 (460 + 3 * m)) 0 (nI 0)) (wA (wA M 5 (upd (M.1 5) 1 (nI 0))) 190 (fun _ => nI 0))) 25 [some (.ref ((zE Z).2.2 0)), some (.int (nI (a_n a))), some (.int (nI i))] [] := by
    refine jj_loop (6) ?_ ?_
    · refine jj_iload_n F dX8_clear_25 rfl ?_
      refine jj_bipush F (v := nI 6) dX8_clear_26 (by decide) ?_
      refine jj_icmp_ge F (tgt := 47) dX8_clear_28 (by decide) (fun _ => ?_) (fun h9 => absurd (nI_le (by omega) (by omega)) h9)
      refine jj_aload_n F dX8_clear_47 rfl ?_
      refine jj_iconst F (v := nI 0) dX8_clear_48 (by decide) ?_
      refine jj_puti F p60 (by assumption) (by rfl) dX8_clear_49 ?_
      refine jj_aload_n F dX8_clear_52 rfl ?_
      refine jj_callVv (na := 0) F (b_show (a := clrA a) (by exact RelP_clr hB (by rw [wA_1s]; rfl) (by rw [wA_n (by omega), fam_out (fun i hi => by omega), wA_n (by omega), wA_1s]; rfl) (by rw [wA_n (by omega), fam_out (fun i hi => by omega), wA_n (by omega), wA_1s]; rfl) (fun j hj => by rw [wA_n (by omega), fam_out (fun i hi => by omega), wA_1s]) (fun m hm => by rw [wA_n (by omega), fam_in (by omega) hm]; rfl) (fun x h1 h2 h3 h4 h5 => by rw [wA_n h2, fam_out (fun i hi => h5 i hi), wA_n h4, wA_n h3]) rfl)) (gl_V mk_X8_75 vw_X8_showNow) rfl rfl rfl (by decide +kernel) ⟨Nat.le_of_ble_eq_true rfl, Nat.le_of_ble_eq_true rfl⟩ (by assumption) rfl rfl rfl (Nat.le_of_ble_eq_true rfl) ⟨Nat.le_of_ble_eq_true rfl, Nat.le_of_ble_eq_true rfl⟩ dX8_clear_53 (fun MS hS9 => ?_)
      refine jj_iload_n F dX8_clear_56 rfl ?_
      refine ret _ _ _ _ dX8_clear_57 (by first | rfl | exact nar_z (by first | exact Or.inl rfl | exact Or.inr rfl | exact b2i_01 _ | assumption)) ?_
      exact ⟨rfl, hS9⟩
    · intro i hi ih
      have kmi := kd_mk0 i hi
      refine jj_iload_n F dX8_clear_25 rfl ?_
      refine jj_bipush F (v := nI 6) dX8_clear_26 (by decide) ?_
      refine jj_icmp_ge F (tgt := 47) dX8_clear_28 (by decide) (fun h9 => absurd h9 (nI_ge (by omega) (by omega))) (fun _ => ?_)
      refine jj_aload_n F dX8_clear_31 rfl ?_
      refine jj_getr F g32 (by assumption) (by rfl) dX8_clear_32 ?_
      refine jj_iload_n F dX8_clear_35 rfl ?_
      refine jj_aald F (by assumption) rfl (by omega) dX8_clear_36 ?_
      refine jj_iconst F (v := nI 0) dX8_clear_37 (by decide) ?_
      refine jj_putz F p71 (by assumption) (by rfl) (by first | exact Or.inl rfl | exact Or.inr rfl | exact b2i_01 _ | assumption) dX8_clear_38 ?_
      refine jj_iinc F dX8_clear_41 rfl (by first | exact iinc1 _ | rfl) (by rw [hnl]; decide) ?_
      dsimp only [lq_st, lq_clr, lq_no]
      refine jj_goto F (tgt := 25) dX8_clear_44 (by decide) ?_
      rw [fam_at (by omega), show (wA (wA M 5 (upd (M.1 5) 1 (nI 0))) 190 (fun _ => nI 0)).1 (460 + 3 * i) = M.1 (460 + 3 * i) by rw [wA_n (by omega), wA_n (by omega)], fam_s (g := (fun m => upd (M.1 (460 + 3 * m)) 0 (nI 0))) (by omega)]
      exact ih
  refine jj_aload_n F dX8_clear_0 rfl ?_
  refine jj_getr F g19 (by assumption) (by rfl) dX8_clear_1 ?_
  refine jj_geti F g65 (by assumption) (by rfl) dX8_clear_4 ?_
  rw [hn]
  refine jj_istore_n F dX8_clear_7 (by rw [hnl]; decide) ?_
  dsimp only [lq_st, lq_clr, lq_no]
  refine jj_aload_n F dX8_clear_8 rfl ?_
  refine jj_getr F g19 (by assumption) (by rfl) dX8_clear_9 ?_
  refine jj_iconst F (v := nI 0) dX8_clear_12 (by decide) ?_
  refine jj_puti F p65 (by assumption) (by rfl) dX8_clear_13 ?_
  refine jj_aload_n F dX8_clear_16 rfl ?_
  refine jj_getr F g26 (by assumption) (by rfl) dX8_clear_17 ?_
  refine jj_callVv (na := 0) F c_X1_endAll (gl_V mk_X8_68 vw_X1_endAll) rfl rfl rfl (by decide +kernel) ⟨Nat.le_of_ble_eq_true rfl, Nat.le_of_ble_eq_true rfl⟩ (by assumption) rfl rfl rfl (Nat.le_of_ble_eq_true rfl) ⟨Nat.le_of_ble_eq_true rfl, Nat.le_of_ble_eq_true rfl⟩ dX8_clear_20 (fun M20 hp20 => ?_)
  obtain rfl := hp20.symm
  refine jj_iconst F (v := nI 0) dX8_clear_23 (by decide) ?_
  refine jj_istore_n F dX8_clear_24 (by rw [hnl]; decide) ?_
  dsimp only [lq_st, lq_clr, lq_no]
  refine jj_eqM ?_ (l1 0 (by omega))
  rw [fam_0]
set_option maxRecDepth 100000 in
set_option maxHeartbeats 1000000 in
theorem b_pass_0 {l : Launch} {E : Ee} {M : Mm} {a : Ab} {W : Nat} (hB : RelB M a W) {k : Nat} (hk1 : 1 ≤ k) (hk : k ≤ 1000) (hL9 : a_t a + k ≤ 100000) : CtI l E yX8_pass (.code yX8_pass cX8_pass 2 (some .int) :: gl) ({ frames := 5, cells := 0, slots := 0, locals := 115 } : Room) M [.ref (E.2.2 0), .int (nI k)] 0 0 (fun r M2 => r = nI (a_t a + k) ∧ RelB M2 (pasA a k) W) := by
  refine ctI_of (L0 := [some (.ref (E.2.2 0)), some (.int (nI k))]) (by decide) rfl (Nat.le_of_ble_eq_true rfl) rfl ?_
  intro Z hl hE hnl F ret
  subst hE
  have in_X8 : ∀ w ∈ u_ws RX8 TX8 9, w ∈ (.code yX8_pass cX8_pass 2 (some .int) :: gl) := fun w h => List.mem_cons_of_mem _ (lay_X8 w h)
  have g60 : FG Z 60 8 8 := fg_mk F (C := RX8) (T := TX8) (N := 9) in_X8 rfl (by decide) rfl (List.mem_cons_of_mem _ fk_X8_60)
  have p60 : FP Z 60 8 8 .int := fp_mk F (C := RX8) (T := TX8) (N := 9) in_X8 tyX8_ok nmX8 rfl (by decide) rfl (List.mem_cons_of_mem _ fk_X8_60) rfl (by decide +kernel)
  obtain ⟨hO, hL, hU, hK, hS, hT, hR0⟩ := id hB
  obtain ⟨h60, ht, htk, hn, hop, hac, hopk, Cb, hC, hCb⟩ := id hO
  obtain ⟨own, en, fa, la, l1, hA, hp⟩ := id hL
  obtain ⟨s1, s2, s3, s4⟩ := id hS
  obtain ⟨S0, hS0⟩ := id hR0.1
  obtain ⟨R, Q, q, hR, hQ, hq, hok⟩ := id hR0.2
  have kb := kd_B
  have kl := kd_Log
  have ke := kd_ents
  have ks := kd_sc0 sc204
  have ks1 := kd_sc1 sc204
  have ks2 := kd_sc2 sc204
  have ks3 := kd_sc3 sc204
  have ks4 := kd_sc4 sc204
  have kt := kd_sc0 sc329
  have kt3 := kd_sc3 sc329
  have kp := kd_PT
  have kL := kd_Ls
  have cs8 := cs_scr
  have k58 := kd_458
  have k59 := kd_459
  have kr := kd_Reg
  have km := kd_marks
  have kc := kd_codes
  have k3 := kd_cols
  have k4 := kd_prows
  have kar := kd_areas
  have kow := kd_owners
  have ken := kd_ends
  have kq := kd_queue
  have kt1 := kd_sc1 sc329
  have kt2 := kd_sc2 sc329
  refine jj_iload_n F dX8_pass_0 rfl ?_
  refine jj_iconst F (v := nI 1) dX8_pass_1 (by decide) ?_
  refine jj_icmp_lt F (tgt := 12) dX8_pass_2 (by decide) (fun h9 => absurd h9 (nI_nlt (b := 1) (by omega) (by omega))) (fun _ => ?_)
  refine jj_iload_n F dX8_pass_5 rfl ?_
  refine jj_sipush F (v := nI 1000) dX8_pass_6 (by decide) ?_
  refine jj_icmp_le F (tgt := 22) dX8_pass_9 (by decide) (fun _ => ?_) (fun h9 => absurd (nI_le (b := 1000) (by omega) (by omega)) h9)
  refine jj_aload_n F dX8_pass_22 rfl ?_
  refine jj_geti F g60 (by assumption) (by rfl) dX8_pass_23 ?_
  rw [htk]
  refine jj_iload_n F dX8_pass_26 rfl ?_
  refine jj_iadd F dX8_pass_27 ?_
  rw [nI_add]
  refine jj_ldc F (v := 100000) dX8_pass_28 (F.hts _ (List.mem_cons_of_mem _ (gl_tb (by decide +kernel) rfl))) ?_
  refine jj_icmp_le F (tgt := 43) dX8_pass_30 (by decide) (fun _ => ?_) (fun h9 => absurd (nI_le (b := 100000) (by omega) (by omega)) h9)
  refine jj_aload_n F dX8_pass_43 rfl ?_
  refine jj_dup F dX8_pass_44 rfl ?_
  refine jj_geti F g60 (by assumption) (by rfl) dX8_pass_45 ?_
  rw [htk]
  refine jj_iload_n F dX8_pass_48 rfl ?_
  refine jj_iadd F dX8_pass_49 ?_
  rw [nI_add]
  refine jj_puti F p60 (by assumption) (by rfl) dX8_pass_50 ?_
  refine jj_aload_n F dX8_pass_53 rfl ?_
  refine jj_callVv (na := 0) F (b_show (a := pasA a k) (by exact RelP_pas hB hL9 (by rw [wA_1s]; rfl) (fun x hx => wA_n hx) rfl)) (gl_V mk_X8_75 vw_X8_showNow) rfl rfl rfl (by decide +kernel) ⟨Nat.le_of_ble_eq_true rfl, Nat.le_of_ble_eq_true rfl⟩ (by assumption) rfl rfl rfl (Nat.le_of_ble_eq_true rfl) ⟨Nat.le_of_ble_eq_true rfl, Nat.le_of_ble_eq_true rfl⟩ dX8_pass_54 (fun MS hS9 => ?_)
  refine jj_aload_n F dX8_pass_57 rfl ?_
  refine jj_geti F g60 (by assumption) (by rfl) dX8_pass_58 ?_
  refine ret _ _ _ _ dX8_pass_61 (by first | rfl | exact nar_z (by first | exact Or.inl rfl | exact Or.inr rfl | exact b2i_01 _ | assumption)) ?_
  exact ⟨hS9.1.2.2.1, hS9⟩
theorem RelB_tx {M M2 : Mm} {a a2 : Ab} {W : Nat} (hB : RelB M a W) (hot : ∀ x, x ≠ 1 → x ≠ 2 → M2.1 x = M.1 x) (hT : RelT M2 a2) (h1 : a_n a2 = a_n a) (h2 : a_t a2 = a_t a) (h3 : a_op a2 = a_op a) (h4 : a_ac a2 = a_ac a) (h5 : a_C a2 = a_C a) (h6 : a_un a2 = a_un a) (h7 : a_lk a2 = a_lk a) (h8 : a_mk a2 = a_mk a) : RelB M2 a2 W := by
  obtain ⟨hO, hL, hU, hK, hS, -, hR⟩ := hB
  obtain ⟨n, t, op, ac, C, un, lk, mk, ln, cd, g⟩ := a
  obtain ⟨n2, t2, op2, ac2, C2, un2, lk2, mk2, ln2, cd2, g2⟩ := a2
  have h1 : n2 = n := h1
  have h2 : t2 = t := h2
  have h3 : op2 = op := h3
  have h4 : ac2 = ac := h4
  have h5 : C2 = C := h5
  have h6 : un2 = un := h6
  have h7 : lk2 = lk := h7
  have h8 : mk2 = mk := h8
  subst h1 h2 h3 h4 h5 h6 h7 h8
  obtain ⟨o1, o2, o3, o4, o5, o6, o7, Cb, o8, o9⟩ := id hO
  have o1 : n2 ≤ 60 := o1
  exact ⟨⟨o1, o2, by rw [hot 0 (by omega) (by omega)]; exact o3, by rw [hot 5 (by omega) (by omega)]; exact o4, fun i hi b hb => by have hi : i < n2 := hi; rw [hot _ (by omega) (by omega)]; exact o5 i hi b hb, fun i hi => by have hi : i < n2 := hi; rw [hot _ (by omega) (by omega)]; exact o6 i hi, o7, Cb, fun i hi => by rw [hot _ (by omega) (by omega)]; exact o8 i hi, o9⟩, RelL_ag hL (fun x h1 h2 => hot x (by omega) (by omega)), RelU_ag hU (by rw [hot 5 (by omega) (by omega)]) (fun i hi => by have hi : i < n2 := hi; rw [hot _ (by omega) (by omega)]), RelK_ag hK (fun x hx => hot x (by omega) (by omega)), RelS_ag hS o1 (fun x h1 h2 => hot x (by omega) (by omega)), hT, RelR_ag hR (hot 454 (by omega) (by omega)) (hot 456 (by omega) (by omega)) (hot 457 (by omega) (by omega)) (hot 459 (by omega) (by omega))⟩
set_option maxRecDepth 100000 in
set_option maxHeartbeats 1000000 in
theorem b_append_0 {l : Launch} {E : Ee} {M : Mm} {a : Ab} {W : Nat} (hB : RelB M a W) {x : Int32} (hx1 : nI 33 ≤ x) (hx2 : x ≤ nI 126) (h40 : a_ln a < 40) : CtI l E yX8_append (.code yX8_append cX8_append 2 (some .int) :: gl) ({ frames := 0, cells := 0, slots := 0, locals := 0 } : Room) M [.ref (E.2.2 0), .int x] 0 0 (fun r M2 => r = nI (a_ln a + 1) ∧ RelB M2 (appA a x) W) := by
  refine ctI_of (L0 := [some (.ref (E.2.2 0)), some (.int x)]) (by decide) rfl (Nat.le_of_ble_eq_true rfl) rfl ?_
  intro Z hl hE hnl F ret
  subst hE
  have in_X5 : ∀ w ∈ u_ws RX5 TX5 7, w ∈ (.code yX8_append cX8_append 2 (some .int) :: gl) := fun w h => List.mem_cons_of_mem _ (lay_X5 w h)
  have in_X8 : ∀ w ∈ u_ws RX8 TX8 9, w ∈ (.code yX8_append cX8_append 2 (some .int) :: gl) := fun w h => List.mem_cons_of_mem _ (lay_X8 w h)
  have g10 : FG Z 10 8 0 := fg_mk F (C := RX8) (T := TX8) (N := 9) in_X8 rfl (by decide) rfl (List.mem_cons_of_mem _ fk_X8_10)
  have g93 : FG Z 93 5 1 := fg_mk F (C := RX5) (T := TX5) (N := 7) in_X5 rfl (by decide) rfl (List.mem_cons_of_mem _ fk_X8_93)
  have g98 : FG Z 98 5 0 := fg_mk F (C := RX5) (T := TX5) (N := 7) in_X5 rfl (by decide) rfl (List.mem_cons_of_mem _ fk_X8_98)
  have p93 : FP Z 93 5 1 .int := fp_mk F (C := RX5) (T := TX5) (N := 7) in_X5 tyX5_ok nmX5 rfl (by decide) rfl (List.mem_cons_of_mem _ fk_X8_93) rfl (by decide +kernel)
  obtain ⟨hO, hL, hU, hK, hS, hT, hR0⟩ := id hB
  obtain ⟨h60, ht, htk, hn, hop, hac, hopk, Cb, hC, hCb⟩ := id hO
  obtain ⟨own, en, fa, la, l1, hA, hp⟩ := id hL
  obtain ⟨s1, s2, s3, s4⟩ := id hS
  obtain ⟨S0, hS0⟩ := id hR0.1
  obtain ⟨R, Q, q, hR, hQ, hq, hok⟩ := id hR0.2
  have kb := kd_B
  have kl := kd_Log
  have ke := kd_ents
  have ks := kd_sc0 sc204
  have ks1 := kd_sc1 sc204
  have ks2 := kd_sc2 sc204
  have ks3 := kd_sc3 sc204
  have ks4 := kd_sc4 sc204
  have kt := kd_sc0 sc329
  have kt3 := kd_sc3 sc329
  have kp := kd_PT
  have kL := kd_Ls
  have cs8 := cs_scr
  have k58 := kd_458
  have k59 := kd_459
  have kr := kd_Reg
  have km := kd_marks
  have kc := kd_codes
  have k3 := kd_cols
  have k4 := kd_prows
  have kar := kd_areas
  have kow := kd_owners
  have ken := kd_ends
  have kq := kd_queue
  have kt1 := kd_sc1 sc329
  have kt2 := kd_sc2 sc329
  obtain ⟨ht1, ht40, ht3, vals, hv3, hv4, hvs, hgg⟩ := id hT
  refine jj_iload_n F dX8_append_0 rfl ?_
  refine jj_bipush F (v := nI 33) dX8_append_1 (by decide) ?_
  refine jj_icmp_lt F (tgt := 12) dX8_append_3 (by decide) (fun h9 => absurd h9 (i32_le_nlt hx1)) (fun _ => ?_)
  refine jj_iload_n F dX8_append_6 rfl ?_
  refine jj_bipush F (v := nI 126) dX8_append_7 (by decide) ?_
  refine jj_icmp_le F (tgt := 22) dX8_append_9 (by decide) (fun _ => ?_) (fun h9 => absurd (hx2) h9)
  refine jj_aload_n F dX8_append_22 rfl ?_
  refine jj_getr F g10 (by assumption) (by rfl) dX8_append_23 ?_
  refine jj_geti F g93 (by assumption) (by rfl) dX8_append_26 ?_
  rw [ht1]
  refine jj_bipush F (v := nI 40) dX8_append_29 (by decide) ?_
  refine jj_icmp_lt F (tgt := 44) dX8_append_31 (by decide) (fun _ => ?_) (fun h9 => absurd (nI_lt (b := 40) (by omega) (by omega)) h9)
  refine jj_aload_n F dX8_append_44 rfl ?_
  refine jj_getr F g10 (by assumption) (by rfl) dX8_append_45 ?_
  refine jj_getr F g98 (by assumption) (by rfl) dX8_append_48 ?_
  refine jj_aload_n F dX8_append_51 rfl ?_
  refine jj_getr F g10 (by assumption) (by rfl) dX8_append_52 ?_
  refine jj_geti F g93 (by assumption) (by rfl) dX8_append_55 ?_
  refine jj_topi (show _ = nI (a_ln a) from ht1) ?_
  refine jj_iload_n F dX8_append_58 rfl ?_
  refine jj_iast F (by assumption) rfl (by omega) dX8_append_59 ?_
  refine jj_aload_n F dX8_append_60 rfl ?_
  refine jj_getr F g10 (by assumption) (by rfl) dX8_append_61 ?_
  refine jj_dup F dX8_append_64 rfl ?_
  refine jj_geti F g93 (by assumption) (by rfl) dX8_append_65 ?_
  refine jj_topi (show _ = nI (a_ln a) from ht1) ?_
  refine jj_iconst F (v := nI 1) dX8_append_68 (by decide) ?_
  refine jj_iadd F dX8_append_69 ?_
  rw [nI_add]
  refine jj_puti F p93 (by assumption) (by rfl) dX8_append_70 ?_
  refine jj_aload_n F dX8_append_73 rfl ?_
  refine jj_getr F g10 (by assumption) (by rfl) dX8_append_74 ?_
  refine jj_geti F g93 (by assumption) (by rfl) dX8_append_77 ?_
  refine jj_topi (show _ = nI (a_ln a + 1) from rfl) ?_
  refine ret _ _ _ _ dX8_append_80 (by first | rfl | exact nar_z (by first | exact Or.inl rfl | exact Or.inr rfl | exact b2i_01 _ | assumption)) ?_
  refine ⟨rfl, RelB_tx hB (fun x h1 h2 => by rw [wA_n h1, wA_n h2]) ⟨rfl, h40, fun i hi => ?_, vals, hv3, hv4, hvs, fun x hx => ?_, hgg.2⟩ rfl rfl rfl rfl rfl rfl rfl rfl⟩
  · have hi : i < a_ln a + 1 := hi
    rw [wA_n (by decide), wA_s]
    show upd (M.1 2) (a_ln a) x i = (if i = a_ln a then x else a_cd a i)
    by_cases z : i = a_ln a
    · rw [if_pos z, z, upd_k]
    · rw [if_neg z, upd_o z]; exact ht3 i (by omega)
  · rw [wA_n (by omega), wA_n (by omega)]; exact hgg.1 x hx
set_option maxRecDepth 100000 in
set_option maxHeartbeats 1000000 in
theorem b_clearBuffer_0 {l : Launch} {E : Ee} {M : Mm} {a : Ab} {W : Nat} (hB : RelB M a W)  : CtI l E yX8_clearBuffer (.code yX8_clearBuffer cX8_clearBuffer 2 (some .int) :: gl) ({ frames := 0, cells := 0, slots := 0, locals := 0 } : Room) M [.ref (E.2.2 0)] 0 0 (fun r M2 => r = nI (a_ln a) ∧ RelB M2 (clbA a) W) := by
  refine ctI_of (L0 := [some (.ref (E.2.2 0)), none]) (by decide) rfl (Nat.le_of_ble_eq_true rfl) rfl ?_
  intro Z hl hE hnl F ret
  subst hE
  have in_X5 : ∀ w ∈ u_ws RX5 TX5 7, w ∈ (.code yX8_clearBuffer cX8_clearBuffer 2 (some .int) :: gl) := fun w h => List.mem_cons_of_mem _ (lay_X5 w h)
  have in_X8 : ∀ w ∈ u_ws RX8 TX8 9, w ∈ (.code yX8_clearBuffer cX8_clearBuffer 2 (some .int) :: gl) := fun w h => List.mem_cons_of_mem _ (lay_X8 w h)
  have g10 : FG Z 10 8 0 := fg_mk F (C := RX8) (T := TX8) (N := 9) in_X8 rfl (by decide) rfl (List.mem_cons_of_mem _ fk_X8_10)
  have g93 : FG Z 93 5 1 := fg_mk F (C := RX5) (T := TX5) (N := 7) in_X5 rfl (by decide) rfl (List.mem_cons_of_mem _ fk_X8_93)
  have p93 : FP Z 93 5 1 .int := fp_mk F (C := RX5) (T := TX5) (N := 7) in_X5 tyX5_ok nmX5 rfl (by decide) rfl (List.mem_cons_of_mem _ fk_X8_93) rfl (by decide +kernel)
  obtain ⟨hO, hL, hU, hK, hS, hT, hR0⟩ := id hB
  obtain ⟨h60, ht, htk, hn, hop, hac, hopk, Cb, hC, hCb⟩ := id hO
  obtain ⟨own, en, fa, la, l1, hA, hp⟩ := id hL
  obtain ⟨s1, s2, s3, s4⟩ := id hS
  obtain ⟨S0, hS0⟩ := id hR0.1
  obtain ⟨R, Q, q, hR, hQ, hq, hok⟩ := id hR0.2
  have kb := kd_B
  have kl := kd_Log
  have ke := kd_ents
  have ks := kd_sc0 sc204
  have ks1 := kd_sc1 sc204
  have ks2 := kd_sc2 sc204
  have ks3 := kd_sc3 sc204
  have ks4 := kd_sc4 sc204
  have kt := kd_sc0 sc329
  have kt3 := kd_sc3 sc329
  have kp := kd_PT
  have kL := kd_Ls
  have cs8 := cs_scr
  have k58 := kd_458
  have k59 := kd_459
  have kr := kd_Reg
  have km := kd_marks
  have kc := kd_codes
  have k3 := kd_cols
  have k4 := kd_prows
  have kar := kd_areas
  have kow := kd_owners
  have ken := kd_ends
  have kq := kd_queue
  have kt1 := kd_sc1 sc329
  have kt2 := kd_sc2 sc329
  obtain ⟨ht1, ht40, ht3, vals, hv3, hv4, hvs, hgg⟩ := id hT
  refine jj_aload_n F dX8_clearBuffer_0 rfl ?_
  refine jj_getr F g10 (by assumption) (by rfl) dX8_clearBuffer_1 ?_
  refine jj_geti F g93 (by assumption) (by rfl) dX8_clearBuffer_4 ?_
  refine jj_topi (show _ = nI (a_ln a) from ht1) ?_
  refine jj_istore_n F dX8_clearBuffer_7 (by rw [hnl]; decide) ?_
  dsimp only [lq_st, lq_clr, lq_no]
  refine jj_aload_n F dX8_clearBuffer_8 rfl ?_
  refine jj_getr F g10 (by assumption) (by rfl) dX8_clearBuffer_9 ?_
  refine jj_iconst F (v := nI 0) dX8_clearBuffer_12 (by decide) ?_
  refine jj_puti F p93 (by assumption) (by rfl) dX8_clearBuffer_13 ?_
  refine jj_iload_n F dX8_clearBuffer_16 rfl ?_
  refine ret _ _ _ _ dX8_clearBuffer_17 (by first | rfl | exact nar_z (by first | exact Or.inl rfl | exact Or.inr rfl | exact b2i_01 _ | assumption)) ?_
  refine ⟨rfl, RelB_tx hB (fun x h1 h2 => by rw [wA_n h1]) ⟨rfl, Nat.zero_le _, fun i hi => absurd hi (Nat.not_lt_zero i), vals, hv3, hv4, hvs, fun x hx => ?_, hgg.2⟩ rfl rfl rfl rfl rfl rfl rfl rfl⟩
  rw [wA_n (by omega)]; exact hgg.1 x hx
set_option maxRecDepth 100000 in
set_option maxHeartbeats 1000000 in
theorem b_undo_0 {l : Launch} {E : Ee} {M : Mm} {a : Ab} {W : Nat} (hB : RelB M a W) {u k v : Nat} (hu : u < 5) (hl9 : laA a (nI u) (a_n a) = some k) (hv9 : ∀ i, i < a_n a → a_un a i < v) : CtI l E yX8_undo (.code yX8_undo cX8_undo 3 (some .int) :: gl) ({ frames := 5, cells := 0, slots := 0, locals := 115 } : Room) M [.ref (E.2.2 0), .int (nI u)] 0 0 (fun r M2 => r = nI k ∧ RelB M2 (unG a k false v) (W + 1)) := by
  refine ctI_of (L0 := [some (.ref (E.2.2 0)), some (.int (nI u)), none]) (by decide) rfl (Nat.le_of_ble_eq_true rfl) rfl ?_
  intro Z hl hE hnl F ret
  subst hE
  have in_X8 : ∀ w ∈ u_ws RX8 TX8 9, w ∈ (.code yX8_undo cX8_undo 3 (some .int) :: gl) := fun w h => List.mem_cons_of_mem _ (lay_X8 w h)
  have g19 : FG Z 19 8 1 := fg_mk F (C := RX8) (T := TX8) (N := 9) in_X8 rfl (by decide) rfl (List.mem_cons_of_mem _ fk_X8_19)
  obtain ⟨hO, hL, hU, hK, hS, hT, hR0⟩ := id hB
  obtain ⟨h60, ht, htk, hn, hop, hac, hopk, Cb, hC, hCb⟩ := id hO
  obtain ⟨own, en, fa, la, l1, hA, hp⟩ := id hL
  obtain ⟨s1, s2, s3, s4⟩ := id hS
  obtain ⟨S0, hS0⟩ := id hR0.1
  obtain ⟨R, Q, q, hR, hQ, hq, hok⟩ := id hR0.2
  have kb := kd_B
  have kl := kd_Log
  have ke := kd_ents
  have ks := kd_sc0 sc204
  have ks1 := kd_sc1 sc204
  have ks2 := kd_sc2 sc204
  have ks3 := kd_sc3 sc204
  have ks4 := kd_sc4 sc204
  have kt := kd_sc0 sc329
  have kt3 := kd_sc3 sc329
  have kp := kd_PT
  have kL := kd_Ls
  have cs8 := cs_scr
  have k58 := kd_458
  have k59 := kd_459
  have kr := kd_Reg
  have km := kd_marks
  have kc := kd_codes
  have k3 := kd_cols
  have k4 := kd_prows
  have kar := kd_areas
  have kow := kd_owners
  have ken := kd_ends
  have kq := kd_queue
  have kt1 := kd_sc1 sc329
  have kt2 := kd_sc2 sc329
  have hk9 := (laA_lt hl9).1
  obtain ⟨ub, w0, hu1, hu2, hu3, hu4⟩ := id hU
  have hlt : ltF M (nI u) (a_n a) = nI k := by rw [lt_eq hop hac (Nat.le_refl _), hl9]; rfl
  refine jj_iload_n F dX8_undo_0 rfl ?_
  refine jj_callSv (na := 1) F (c_X8_refuseWrongUser hu) (gl_S mk_X8_106 vw_X8_refuseWrongUser) rfl rfl rfl (by decide +kernel) ⟨Nat.le_of_ble_eq_true rfl, Nat.le_of_ble_eq_true rfl⟩ rfl rfl (Nat.le_of_ble_eq_true rfl) ⟨Nat.le_of_ble_eq_true rfl, Nat.le_of_ble_eq_true rfl⟩ dX8_undo_1 (fun M1 hp1 => ?_)
  obtain rfl := hp1.symm
  refine jj_aload_n F dX8_undo_4 rfl ?_
  refine jj_getr F g19 (by assumption) (by rfl) dX8_undo_5 ?_
  refine jj_iload_n F dX8_undo_8 rfl ?_
  refine jj_callVi (na := 1) F (c_X2_latestActive (ow := nI u) hn h60) (gl_V mk_X8_168 vw_X2_latestActive) rfl rfl rfl (by decide +kernel) ⟨Nat.le_of_ble_eq_true rfl, Nat.le_of_ble_eq_true rfl⟩ (by assumption) rfl rfl rfl (Nat.le_of_ble_eq_true rfl) ⟨Nat.le_of_ble_eq_true rfl, Nat.le_of_ble_eq_true rfl⟩ dX8_undo_9 (fun r9 M9 hp9 => ?_)
  obtain ⟨rfl, rfl⟩ := symm2 hp9
  rw [hlt]
  refine jj_istore_n F dX8_undo_12 (by rw [hnl]; decide) ?_
  dsimp only [lq_st, lq_clr, lq_no]
  refine jj_aload_n F dX8_undo_13 rfl ?_
  refine jj_getr F g19 (by assumption) (by rfl) dX8_undo_14 ?_
  refine jj_iload_n F dX8_undo_17 rfl ?_
  refine jj_callVi (na := 1) F (c_X2_contains (x := nI k)) (gl_V mk_X8_171 vw_X2_contains) rfl rfl rfl (by decide +kernel) ⟨Nat.le_of_ble_eq_true rfl, Nat.le_of_ble_eq_true rfl⟩ (by assumption) rfl rfl rfl (Nat.le_of_ble_eq_true rfl) ⟨Nat.le_of_ble_eq_true rfl, Nat.le_of_ble_eq_true rfl⟩ dX8_undo_18 (fun r18 M18 hp18 => ?_)
  obtain ⟨rfl, rfl⟩ := symm2 hp18
  refine jj_if_ne F (tgt := 34) dX8_undo_21 (by decide) (fun _ => ?_) (fun h9 => absurd h9 (by rw [show (decide (0 ≤ nI k) && decide (nI k < M.1 5 1)) = true by rw [hn, decide_eq_true (nI_lt hk9 (by omega)), decide_eq_true (show (0 : Int32) ≤ nI k from nI_le (a := 0) (Nat.zero_le _) (by omega))]; rfl]; decide))
  refine jj_aload_n F dX8_undo_34 rfl ?_
  refine jj_getr F g19 (by assumption) (by rfl) dX8_undo_35 ?_
  refine jj_iload_n F dX8_undo_38 rfl ?_
  refine jj_callVv (na := 1) F (c_X2_switchOff (q := k) (by omega)) (gl_V mk_X8_177 vw_X2_switchOff) rfl rfl rfl (by decide +kernel) ⟨Nat.le_of_ble_eq_true rfl, Nat.le_of_ble_eq_true rfl⟩ (by assumption) rfl rfl rfl (Nat.le_of_ble_eq_true rfl) ⟨Nat.le_of_ble_eq_true rfl, Nat.le_of_ble_eq_true rfl⟩ dX8_undo_39 (fun M39 hp39 => ?_)
  obtain rfl := hp39.symm
  refine jj_aload_n F dX8_undo_42 rfl ?_
  refine jj_callVv (na := 0) F (b_show (a := unG a k false v) (by exact RelP_ug (W2 := W + 1) hB hk9 (by rw [wA_1s]; rfl) (fun c hc => by rw [wA_1s, upd_o (by omega), upd_o (by omega)]) (by rw [wA_n (by omega), wA_1s]; rfl) (fun x h1 h2 => by rw [wA_n h2, wA_n h1]) rfl (RelU_un hu1 hk9 (by rw [wA_n (by omega), wA_1s, upd_k, hu2, nI_add]) hu3 hu4 hv9 (by rw [wA_1s, upd_k, hu2, nI_add]) (fun i hi h => by rw [wA_n (by omega), wA_n (by omega)])))) (gl_V mk_X8_75 vw_X8_showNow) rfl rfl rfl (by decide +kernel) ⟨Nat.le_of_ble_eq_true rfl, Nat.le_of_ble_eq_true rfl⟩ (by assumption) rfl rfl rfl (Nat.le_of_ble_eq_true rfl) ⟨Nat.le_of_ble_eq_true rfl, Nat.le_of_ble_eq_true rfl⟩ dX8_undo_43 (fun MS hS9 => ?_)
  refine jj_iload_n F dX8_undo_46 rfl ?_
  refine ret _ _ _ _ dX8_undo_47 (by first | rfl | exact nar_z (by first | exact Or.inl rfl | exact Or.inr rfl | exact b2i_01 _ | assumption)) ?_
  exact ⟨rfl, hS9⟩
set_option maxRecDepth 100000 in
set_option maxHeartbeats 1000000 in
theorem b_redo_0 {l : Launch} {E : Ee} {M : Mm} {a : Ab} {W : Nat} (hB : RelB M a W) {u k : Nat} (hWW : W < 1000) (hu : u < 5) (hl9 : rdA a (nI u) (a_n a) = some k) : CtI l E yX8_redo (.code yX8_redo cX8_redo 3 (some .int) :: gl) ({ frames := 5, cells := 0, slots := 0, locals := 115 } : Room) M [.ref (E.2.2 0), .int (nI u)] 0 0 (fun r M2 => r = nI k ∧ RelB M2 (unG a k true 0) W) := by
  refine ctI_of (L0 := [some (.ref (E.2.2 0)), some (.int (nI u)), none]) (by decide) rfl (Nat.le_of_ble_eq_true rfl) rfl ?_
  intro Z hl hE hnl F ret
  subst hE
  have in_X8 : ∀ w ∈ u_ws RX8 TX8 9, w ∈ (.code yX8_redo cX8_redo 3 (some .int) :: gl) := fun w h => List.mem_cons_of_mem _ (lay_X8 w h)
  have g19 : FG Z 19 8 1 := fg_mk F (C := RX8) (T := TX8) (N := 9) in_X8 rfl (by decide) rfl (List.mem_cons_of_mem _ fk_X8_19)
  obtain ⟨hO, hL, hU, hK, hS, hT, hR0⟩ := id hB
  obtain ⟨h60, ht, htk, hn, hop, hac, hopk, Cb, hC, hCb⟩ := id hO
  obtain ⟨own, en, fa, la, l1, hA, hp⟩ := id hL
  obtain ⟨s1, s2, s3, s4⟩ := id hS
  obtain ⟨S0, hS0⟩ := id hR0.1
  obtain ⟨R, Q, q, hR, hQ, hq, hok⟩ := id hR0.2
  have kb := kd_B
  have kl := kd_Log
  have ke := kd_ents
  have ks := kd_sc0 sc204
  have ks1 := kd_sc1 sc204
  have ks2 := kd_sc2 sc204
  have ks3 := kd_sc3 sc204
  have ks4 := kd_sc4 sc204
  have kt := kd_sc0 sc329
  have kt3 := kd_sc3 sc329
  have kp := kd_PT
  have kL := kd_Ls
  have cs8 := cs_scr
  have k58 := kd_458
  have k59 := kd_459
  have kr := kd_Reg
  have km := kd_marks
  have kc := kd_codes
  have k3 := kd_cols
  have k4 := kd_prows
  have kar := kd_areas
  have kow := kd_owners
  have ken := kd_ends
  have kq := kd_queue
  have kt1 := kd_sc1 sc329
  have kt2 := kd_sc2 sc329
  have hk9 := (rdA_lt hl9).1
  obtain ⟨ub, w0, hu1, hu2, hu3, hu4⟩ := id hU
  have hlt : (luF M (nI u) (a_n a)).1 = nI k := by rw [lu_eq hop (by omega) hu3 hu4 (Nat.le_refl _), hl9]; rfl
  refine jj_iload_n F dX8_redo_0 rfl ?_
  refine jj_callSv (na := 1) F (c_X8_refuseWrongUser hu) (gl_S mk_X8_106 vw_X8_refuseWrongUser) rfl rfl rfl (by decide +kernel) ⟨Nat.le_of_ble_eq_true rfl, Nat.le_of_ble_eq_true rfl⟩ rfl rfl (Nat.le_of_ble_eq_true rfl) ⟨Nat.le_of_ble_eq_true rfl, Nat.le_of_ble_eq_true rfl⟩ dX8_redo_1 (fun M1 hp1 => ?_)
  obtain rfl := hp1.symm
  refine jj_aload_n F dX8_redo_4 rfl ?_
  refine jj_getr F g19 (by assumption) (by rfl) dX8_redo_5 ?_
  refine jj_iload_n F dX8_redo_8 rfl ?_
  refine jj_callVi (na := 1) F (c_X2_lastUndone (ow := nI u) hn h60) (gl_V mk_X8_180 vw_X2_lastUndone) rfl rfl rfl (by decide +kernel) ⟨Nat.le_of_ble_eq_true rfl, Nat.le_of_ble_eq_true rfl⟩ (by assumption) rfl rfl rfl (Nat.le_of_ble_eq_true rfl) ⟨Nat.le_of_ble_eq_true rfl, Nat.le_of_ble_eq_true rfl⟩ dX8_redo_9 (fun r9 M9 hp9 => ?_)
  obtain ⟨rfl, rfl⟩ := symm2 hp9
  rw [hlt]
  refine jj_istore_n F dX8_redo_12 (by rw [hnl]; decide) ?_
  dsimp only [lq_st, lq_clr, lq_no]
  refine jj_aload_n F dX8_redo_13 rfl ?_
  refine jj_getr F g19 (by assumption) (by rfl) dX8_redo_14 ?_
  refine jj_iload_n F dX8_redo_17 rfl ?_
  refine jj_callVi (na := 1) F (c_X2_contains (x := nI k)) (gl_V mk_X8_171 vw_X2_contains) rfl rfl rfl (by decide +kernel) ⟨Nat.le_of_ble_eq_true rfl, Nat.le_of_ble_eq_true rfl⟩ (by assumption) rfl rfl rfl (Nat.le_of_ble_eq_true rfl) ⟨Nat.le_of_ble_eq_true rfl, Nat.le_of_ble_eq_true rfl⟩ dX8_redo_18 (fun r18 M18 hp18 => ?_)
  obtain ⟨rfl, rfl⟩ := symm2 hp18
  refine jj_if_ne F (tgt := 34) dX8_redo_21 (by decide) (fun _ => ?_) (fun h9 => absurd h9 (by rw [show (decide (0 ≤ nI k) && decide (nI k < M.1 5 1)) = true by rw [hn, decide_eq_true (nI_lt hk9 (by omega)), decide_eq_true (show (0 : Int32) ≤ nI k from nI_le (a := 0) (Nat.zero_le _) (by omega))]; rfl]; decide))
  refine jj_aload_n F dX8_redo_34 rfl ?_
  refine jj_getr F g19 (by assumption) (by rfl) dX8_redo_35 ?_
  refine jj_iload_n F dX8_redo_38 rfl ?_
  refine jj_callVv (na := 1) F (c_X2_switchOn (q := k) (by omega)) (gl_V mk_X8_185 vw_X2_switchOn) rfl rfl rfl (by decide +kernel) ⟨Nat.le_of_ble_eq_true rfl, Nat.le_of_ble_eq_true rfl⟩ (by assumption) rfl rfl rfl (Nat.le_of_ble_eq_true rfl) ⟨Nat.le_of_ble_eq_true rfl, Nat.le_of_ble_eq_true rfl⟩ dX8_redo_39 (fun M39 hp39 => ?_)
  obtain rfl := hp39.symm
  refine jj_aload_n F dX8_redo_42 rfl ?_
  refine jj_callVv (na := 0) F (b_show (a := unG a k true 0) (by exact RelP_ug (W2 := W) hB hk9 (by rw [wA_1s]; rfl) (fun c hc => by rw [wA_1s, upd_o (by omega), upd_o (by omega)]) (by rw [wA_n (by omega)]) (fun x h1 h2 => by rw [wA_n h2]) rfl (RelU_re hU (by rw [wA_n (by omega)]) (by rw [wA_1s, upd_k]) (fun i hi h => by rw [wA_n (by omega)])))) (gl_V mk_X8_75 vw_X8_showNow) rfl rfl rfl (by decide +kernel) ⟨Nat.le_of_ble_eq_true rfl, Nat.le_of_ble_eq_true rfl⟩ (by assumption) rfl rfl rfl (Nat.le_of_ble_eq_true rfl) ⟨Nat.le_of_ble_eq_true rfl, Nat.le_of_ble_eq_true rfl⟩ dX8_redo_43 (fun MS hS9 => ?_)
  refine jj_iload_n F dX8_redo_46 rfl ?_
  refine ret _ _ _ _ dX8_redo_47 (by first | rfl | exact nar_z (by first | exact Or.inl rfl | exact Or.inr rfl | exact b2i_01 _ | assumption)) ?_
  exact ⟨rfl, hS9⟩
theorem flt_en {own en fa la : Nat → Nat} {t u : Nat} : lzL own (fun j => if decide (t < en j) && decide (own j = u) then 0 else en j) fa la t = (lzL own en fa la t).filter (fun z => !decide (z.1 = u)) := by
  unfold lzL
  rw [List.filter_map, List.filter_filter]
  have e : (List.range 6).filter (fun j => decide (t < if (decide (t < en j) && decide (own j = u)) = true then 0 else en j)) = (List.range 6).filter (fun j => (!decide (own j = u)) && decide (t < en j)) := List.filter_congr (fun j _ => by
    by_cases p : t < en j
    · by_cases q : own j = u
      · rw [decide_eq_true p, decide_eq_true q]; simp
      · rw [decide_eq_true p, decide_eq_false q]; simp [p]
    · rw [decide_eq_false p]; simp [p])
  rw [e]
  refine List.map_congr_left (fun j hj => ?_)
  have := (List.mem_filter.mp hj).2
  simp only [Bool.and_eq_true, Bool.not_eq_true', decide_eq_false_iff_not, decide_eq_true_eq] at this
  show (own j, fa j, la j, if (decide (t < en j) && decide (own j = u)) = true then 0 else en j) = _
  rw [if_neg (by rw [decide_eq_false this.1, Bool.and_false]; decide)]
theorem RelB_lk {M M2 : Mm} {a : Ab} {W : Nat} {l : List Lz} (hB : RelB M a W) (hL : RelL M2 (a_t a) l) (hR : RelR M2) (hot : ∀ x, x < 189 ∨ 203 ≤ x → x ≠ 459 → M2.1 x = M.1 x) (hs : M2.2 = M.2) : RelB M2 (lkA a l) W := by
  obtain ⟨hO, -, hU, hK, hS, hT, -⟩ := hB
  have hn := hO.1
  exact ⟨RelO_ag hO (fun x hx => hot x (by omega) (by omega)), hL, RelU_ag hU (by rw [hot 5 (by omega) (by omega)]) (fun i hi => by have hi : i < a_n a := hi; rw [hot _ (by omega) (by omega)]), fun m hm => by rw [hot _ (by omega) (by omega), hot _ (by omega) (by omega), hot _ (by omega) (by omega)]; exact hK m hm, RelS_ag hS hn (fun x h1 h2 => hot x (by omega) (by omega)), RelT_ag hT (fun x h1 h2 h3 => hot x (by omega) (by omega)) hs, hR⟩
set_option maxRecDepth 100000 in
set_option maxHeartbeats 1000000 in
theorem b_release_0 {l : Launch} {E : Ee} {M : Mm} {a : Ab} {W : Nat} (hB : RelB M a W) {u : Nat} (hu : u < 5) : CtI l E yX8_release (.code yX8_release cX8_release 2 (some .int) :: gl) ({ frames := 1, cells := 0, slots := 0, locals := 24 } : Room) M [.ref (E.2.2 0), .int (nI u)] 0 0 (fun r M2 => r = nI ((a_lk a).filter (fun z => decide (z.1 = u))).length ∧ RelB M2 (lkA a ((a_lk a).filter (fun z => !decide (z.1 = u)))) W) := by
  refine ctI_of (L0 := [some (.ref (E.2.2 0)), some (.int (nI u))]) (by decide) rfl (Nat.le_of_ble_eq_true rfl) rfl ?_
  intro Z hl hE hnl F ret
  subst hE
  have in_X8 : ∀ w ∈ u_ws RX8 TX8 9, w ∈ (.code yX8_release cX8_release 2 (some .int) :: gl) := fun w h => List.mem_cons_of_mem _ (lay_X8 w h)
  have g26 : FG Z 26 8 2 := fg_mk F (C := RX8) (T := TX8) (N := 9) in_X8 rfl (by decide) rfl (List.mem_cons_of_mem _ fk_X8_26)
  have g60 : FG Z 60 8 8 := fg_mk F (C := RX8) (T := TX8) (N := 9) in_X8 rfl (by decide) rfl (List.mem_cons_of_mem _ fk_X8_60)
  obtain ⟨hO, hL, hU, hK, hS, hT, hR0⟩ := id hB
  obtain ⟨h60, ht, htk, hn, hop, hac, hopk, Cb, hC, hCb⟩ := id hO
  obtain ⟨own, en, fa, la, l1, hA, hp⟩ := id hL
  obtain ⟨s1, s2, s3, s4⟩ := id hS
  obtain ⟨S0, hS0⟩ := id hR0.1
  obtain ⟨R, Q, q, hR, hQ, hq, hok⟩ := id hR0.2
  have kb := kd_B
  have kl := kd_Log
  have ke := kd_ents
  have ks := kd_sc0 sc204
  have ks1 := kd_sc1 sc204
  have ks2 := kd_sc2 sc204
  have ks3 := kd_sc3 sc204
  have ks4 := kd_sc4 sc204
  have kt := kd_sc0 sc329
  have kt3 := kd_sc3 sc329
  have kp := kd_PT
  have kL := kd_Ls
  have cs8 := cs_scr
  have k58 := kd_458
  have k59 := kd_459
  have kr := kd_Reg
  have km := kd_marks
  have kc := kd_codes
  have k3 := kd_cols
  have k4 := kd_prows
  have kar := kd_areas
  have kow := kd_owners
  have ken := kd_ends
  have kq := kd_queue
  have kt1 := kd_sc1 sc329
  have kt2 := kd_sc2 sc329
  refine jj_iload_n F dX8_release_0 rfl ?_
  refine jj_callSv (na := 1) F (c_X8_refuseWrongUser hu) (gl_S mk_X8_106 vw_X8_refuseWrongUser) rfl rfl rfl (by decide +kernel) ⟨Nat.le_of_ble_eq_true rfl, Nat.le_of_ble_eq_true rfl⟩ rfl rfl (Nat.le_of_ble_eq_true rfl) ⟨Nat.le_of_ble_eq_true rfl, Nat.le_of_ble_eq_true rfl⟩ dX8_release_1 (fun M1 hp1 => ?_)
  obtain rfl := hp1.symm
  refine jj_aload_n F dX8_release_4 rfl ?_
  refine jj_getr F g26 (by assumption) (by rfl) dX8_release_5 ?_
  refine jj_iload_n F dX8_release_8 rfl ?_
  refine jj_aload_n F dX8_release_9 rfl ?_
  refine jj_geti F g60 (by assumption) (by rfl) dX8_release_10 ?_
  rw [htk]
  refine jj_callVi (na := 2) F (c_X1_endAllOf (ow := nI u) (t := nI (a_t a))) (gl_V mk_X8_215 vw_X1_endAllOf) rfl rfl rfl (by decide +kernel) ⟨Nat.le_of_ble_eq_true rfl, Nat.le_of_ble_eq_true rfl⟩ (by assumption) rfl rfl rfl (Nat.le_of_ble_eq_true rfl) ⟨Nat.le_of_ble_eq_true rfl, Nat.le_of_ble_eq_true rfl⟩ dX8_release_13 (fun r13 M13 hp13 => ?_)
  obtain ⟨rfl, rfl⟩ := symm2 hp13
  refine ret _ _ _ _ dX8_release_16 (by first | rfl | exact nar_z (by first | exact Or.inl rfl | exact Or.inr rfl | exact b2i_01 _ | assumption)) ?_
  refine ⟨by rw [bp5o (by omega) (by omega) l1 hp], RelB_lk hB ⟨own, fun j => if decide (a_t a < en j) && decide (own j = u) then 0 else en j, fa, la, fun j hj => ?_, fun j hj => ?_, ?_⟩ (RelR_ag hR0 rfl rfl rfl rfl) (fun x h1 h2 => wA_n (by omega)) rfl⟩
  · obtain ⟨g1, g2, g3, g4, g5⟩ := l1 j hj
    refine ⟨by rw [wA_n (by decide)]; exact g1, ?_, g3, ?_, g5⟩
    · show _ = nI (if (decide (a_t a < en j) && decide (own j = u)) = true then 0 else en j)
      rw [wA_1s, inF_eq (by omega) g2 g4, g1, show decide (nI (own j) = nI u) = decide (own j = u) by rw [Bool.eq_iff_iff]; simp only [decide_eq_true_eq]; exact nI_eq (by omega) (by omega), g2]
      split <;> rfl
    · dsimp only
      split
      · omega
      · exact g4
  · rw [wA_n (by omega)]; exact hA j hj
  · rw [flt_en]
    exact hp.filter _
theorem fst1_le (p : Nat → Bool) : ∀ n, fst1 p n ≤ n
  | 0 => Nat.le_refl _
  | n + 1 => by
    have := fst1_le p n
    unfold fst1
    split
    · omega
    · split <;> omega
theorem fst1_p {p : Nat → Bool} : ∀ {n : Nat}, fst1 p n < n → p (fst1 p n) = true
  | 0, h => absurd h (Nat.not_lt_zero _)
  | n + 1, h => by
    have ih := fst1_p (p := p) (n := n)
    unfold fst1 at h ⊢
    split
    · rename_i q; exact ih q
    · rename_i q
      rw [if_neg q] at h
      split
      · rename_i z; exact z
      · rename_i z; rw [if_neg z] at h; omega
theorem fst1_n {p : Nat → Bool} : ∀ {n : Nat}, ¬ fst1 p n < n → ∀ j, j < n → p j = false
  | 0, _ => fun j hj => absurd hj (Nat.not_lt_zero j)
  | n + 1, h => fun j hj => by
    have ih := fst1_n (p := p) (n := n)
    unfold fst1 at h
    by_cases q : fst1 p n < n
    · rw [if_pos q] at h; omega
    · rw [if_neg q] at h
      by_cases z : p n = true
      · rw [if_pos z] at h; omega
      · by_cases e : j = n
        · subst e; cases y : p j with
          | false => rfl
          | true => exact absurd y z
        · exact ih q j (by omega)
theorem ct_all {p : Nat → Bool} : ∀ {n : Nat}, (∀ j, j < n → p j = true) → fb_ct p n = n
  | 0, _ => rfl
  | n + 1, h => by
    have ih := ct_all (p := p) (n := n) (fun j hj => h j (by omega))
    simp [fb_ct, ih, h n (by omega)]
theorem ct_lt {p : Nat → Bool} {j : Nat} : ∀ {n : Nat}, j < n → p j = false → fb_ct p n < n
  | 0, h, _ => absurd h (Nat.not_lt_zero _)
  | n + 1, h, hp => by
    by_cases e : j = n
    · subst e
      have := fb_ct_le p j
      simp [fb_ct, hp]
      omega
    · have ih := ct_lt (p := p) (j := j) (n := n) (by omega) hp
      simp only [fb_ct]
      split <;> omega
set_option maxRecDepth 100000 in
set_option maxHeartbeats 1000000 in
theorem b_lease_m {l : Launch} {E : Ee} {M : Mm} {a : Ab} {W : Nat} (hB : RelB M a W) {u f g k : Nat} (hu : u < 5) (hf : f < 256) (hg : g < 256) (hk1 : 1 ≤ k) (hk : k ≤ 999) (hls : lsB a u f g = true) : CtI l E yX8_lease (.code yX8_lease cX8_lease 6 (some .int) :: gl) ({ frames := 3, cells := 0, slots := 0, locals := 68 } : Room) M [.ref (E.2.2 0), .int (nI u), .int (nI f), .int (nI g), .int (nI k)] 0 0 (fun r M2 => r = -1 ∧ RelB M2 a W) := by
  refine ctI_of (L0 := [some (.ref (E.2.2 0)), some (.int (nI u)), some (.int (nI f)), some (.int (nI g)), some (.int (nI k)), none]) (by decide) rfl (Nat.le_of_ble_eq_true rfl) rfl ?_
  intro Z hl hE hnl F ret
  subst hE
  have in_X1 : ∀ w ∈ u_ws RX1 TX1 3, w ∈ (.code yX8_lease cX8_lease 6 (some .int) :: gl) := fun w h => List.mem_cons_of_mem _ (lay_X1 w h)
  have in_X8 : ∀ w ∈ u_ws RX8 TX8 9, w ∈ (.code yX8_lease cX8_lease 6 (some .int) :: gl) := fun w h => List.mem_cons_of_mem _ (lay_X8 w h)
  have g26 : FG Z 26 8 2 := fg_mk F (C := RX8) (T := TX8) (N := 9) in_X8 rfl (by decide) rfl (List.mem_cons_of_mem _ fk_X8_26)
  have g56 : FG Z 56 8 7 := fg_mk F (C := RX8) (T := TX8) (N := 9) in_X8 rfl (by decide) rfl (List.mem_cons_of_mem _ fk_X8_56)
  have g60 : FG Z 60 8 8 := fg_mk F (C := RX8) (T := TX8) (N := 9) in_X8 rfl (by decide) rfl (List.mem_cons_of_mem _ fk_X8_60)
  have g204 : FG Z 204 1 0 := fg_mk F (C := RX1) (T := TX1) (N := 3) in_X1 rfl (by decide) rfl (List.mem_cons_of_mem _ fk_X8_204)
  obtain ⟨hO, hL, hU, hK, hS, hT, hR0⟩ := id hB
  obtain ⟨h60, ht, htk, hn, hop, hac, hopk, Cb, hC, hCb⟩ := id hO
  obtain ⟨own, en, fa, la, l1, hA, hp⟩ := id hL
  obtain ⟨s1, s2, s3, s4⟩ := id hS
  obtain ⟨S0, hS0⟩ := id hR0.1
  obtain ⟨R, Q, q, hR, hQ, hq, hok⟩ := id hR0.2
  have kb := kd_B
  have kl := kd_Log
  have ke := kd_ents
  have ks := kd_sc0 sc204
  have ks1 := kd_sc1 sc204
  have ks2 := kd_sc2 sc204
  have ks3 := kd_sc3 sc204
  have ks4 := kd_sc4 sc204
  have kt := kd_sc0 sc329
  have kt3 := kd_sc3 sc329
  have kp := kd_PT
  have kL := kd_Ls
  have cs8 := cs_scr
  have k58 := kd_458
  have k59 := kd_459
  have kr := kd_Reg
  have km := kd_marks
  have kc := kd_codes
  have k3 := kd_cols
  have k4 := kd_prows
  have kar := kd_areas
  have kow := kd_owners
  have ken := kd_ends
  have kq := kd_queue
  have kt1 := kd_sc1 sc329
  have kt2 := kd_sc2 sc329
  have hx9 : exB 256 (fun c => cloF M (fun j => rect (fa j) (la j)) (nI (a_t a)) (nI u) 6 c && rect f g c) = lsB a u f g := by
    unfold lsB
    refine exB_cong (fun c _ => ?_)
    rw [cloF_eq (by omega) (by omega) l1 hp c, Bool.and_comm]
  refine jj_iload_n F dX8_lease_0 rfl ?_
  refine jj_callSv (na := 1) F (c_X8_refuseWrongUser hu) (gl_S mk_X8_106 vw_X8_refuseWrongUser) rfl rfl rfl (by decide +kernel) ⟨Nat.le_of_ble_eq_true rfl, Nat.le_of_ble_eq_true rfl⟩ rfl rfl (Nat.le_of_ble_eq_true rfl) ⟨Nat.le_of_ble_eq_true rfl, Nat.le_of_ble_eq_true rfl⟩ dX8_lease_1 (fun M1 hp1 => ?_)
  obtain rfl := hp1.symm
  refine jj_iload_n F dX8_lease_4 rfl ?_
  refine jj_callSv (na := 1) F (c_X8_refuseWrongCell hf) (gl_S mk_X8_151 vw_X8_refuseWrongCell) rfl rfl rfl (by decide +kernel) ⟨Nat.le_of_ble_eq_true rfl, Nat.le_of_ble_eq_true rfl⟩ rfl rfl (Nat.le_of_ble_eq_true rfl) ⟨Nat.le_of_ble_eq_true rfl, Nat.le_of_ble_eq_true rfl⟩ dX8_lease_5 (fun M5 hp5 => ?_)
  obtain rfl := hp5.symm
  refine jj_iload_n F dX8_lease_8 rfl ?_
  refine jj_callSv (na := 1) F (c_X8_refuseWrongCell hg) (gl_S mk_X8_151 vw_X8_refuseWrongCell) rfl rfl rfl (by decide +kernel) ⟨Nat.le_of_ble_eq_true rfl, Nat.le_of_ble_eq_true rfl⟩ rfl rfl (Nat.le_of_ble_eq_true rfl) ⟨Nat.le_of_ble_eq_true rfl, Nat.le_of_ble_eq_true rfl⟩ dX8_lease_9 (fun M9 hp9 => ?_)
  obtain rfl := hp9.symm
  refine jj_iload F dX8_lease_12 rfl ?_
  refine jj_iconst F (v := nI 1) dX8_lease_14 (by decide) ?_
  refine jj_icmp_lt F (tgt := 26) dX8_lease_15 (by decide) (fun h9 => absurd h9 (nI_nlt (b := 1) (by omega) (by omega))) (fun _ => ?_)
  refine jj_iload F dX8_lease_18 rfl ?_
  refine jj_sipush F (v := nI 999) dX8_lease_20 (by decide) ?_
  refine jj_icmp_le F (tgt := 36) dX8_lease_23 (by decide) (fun _ => ?_) (fun h9 => absurd (nI_le (b := 999) (by omega) (by omega)) h9)
  refine jj_aload_n F dX8_lease_36 rfl ?_
  refine jj_getr F g26 (by assumption) (by rfl) dX8_lease_37 ?_
  refine jj_iload_n F dX8_lease_40 rfl ?_
  refine jj_aload_n F dX8_lease_41 rfl ?_
  refine jj_geti F g60 (by assumption) (by rfl) dX8_lease_42 ?_
  rw [htk]
  refine jj_aload_n F dX8_lease_45 rfl ?_
  refine jj_getr F g56 (by assumption) (by rfl) dX8_lease_46 ?_
  refine jj_callVv (na := 3) F (c_X1_collectClosed (A := fun j => rect (fa j) (la j)) (u := nI u) (t := nI (a_t a)) hA cs8 (fun i hi => by omega)) (gl_V mk_X8_190 vw_X1_collectClosed) rfl rfl rfl (by decide +kernel) ⟨Nat.le_of_ble_eq_true rfl, Nat.le_of_ble_eq_true rfl⟩ (by assumption) rfl rfl rfl (Nat.le_of_ble_eq_true rfl) ⟨Nat.le_of_ble_eq_true rfl, Nat.le_of_ble_eq_true rfl⟩ dX8_lease_49 (fun M49 hp49 => ?_)
  obtain rfl := hp49.symm
  refine jj_aload_n F dX8_lease_52 rfl ?_
  refine jj_getr F g56 (by assumption) (by rfl) dX8_lease_53 ?_
  refine jj_iload_n F dX8_lease_56 rfl ?_
  refine jj_iload_n F dX8_lease_57 rfl ?_
  refine jj_callVi (na := 2) F (c_X0_meetsRectangle (M := (wA M (458 + 1) (rowsOf (cloF M (fun j => rect (fa j) (la j)) (nI (a_t a)) (nI u) 6)))) (S := cloF M (fun j => rect (fa j) (la j)) (nI (a_t a)) (nI u) 6) cs8 (wA_s _ _ _) hf hg) (gl_V mk_X8_194 vw_X0_meetsRectangle) rfl rfl rfl (by decide +kernel) ⟨Nat.le_of_ble_eq_true rfl, Nat.le_of_ble_eq_true rfl⟩ (by assumption) rfl rfl rfl (Nat.le_of_ble_eq_true rfl) ⟨Nat.le_of_ble_eq_true rfl, Nat.le_of_ble_eq_true rfl⟩ dX8_lease_58 (fun r58 M58 hp58 => ?_)
  obtain ⟨rfl, rfl⟩ := symm2 hp58
  rw [hx9]
  refine jj_if_eq F (tgt := 66) dX8_lease_61 (by decide) (fun h9 => absurd h9 (by rw [hls]; decide)) (fun _ => ?_)
  refine jj_iconst F (v := -1) dX8_lease_64 (by decide) ?_
  refine ret _ _ _ _ dX8_lease_65 (by first | rfl | exact nar_z (by first | exact Or.inl rfl | exact Or.inr rfl | exact b2i_01 _ | assumption)) ?_
  exact ⟨rfl, RelB_459 hB _⟩
set_option maxRecDepth 100000 in
set_option maxHeartbeats 1000000 in
theorem b_lease_f {l : Launch} {E : Ee} {M : Mm} {a : Ab} {W : Nat} (hB : RelB M a W) {u f g k : Nat} (hu : u < 5) (hf : f < 256) (hg : g < 256) (hk1 : 1 ≤ k) (hk : k ≤ 999) (hls : lsB a u f g = false) (h6 : (a_lk a).length = 6) : CtI l E yX8_lease (.code yX8_lease cX8_lease 6 (some .int) :: gl) ({ frames := 3, cells := 0, slots := 0, locals := 68 } : Room) M [.ref (E.2.2 0), .int (nI u), .int (nI f), .int (nI g), .int (nI k)] 0 0 (fun r M2 => r = -1 ∧ RelB M2 a W) := by
  refine ctI_of (L0 := [some (.ref (E.2.2 0)), some (.int (nI u)), some (.int (nI f)), some (.int (nI g)), some (.int (nI k)), none]) (by decide) rfl (Nat.le_of_ble_eq_true rfl) rfl ?_
  intro Z hl hE hnl F ret
  subst hE
  have in_X1 : ∀ w ∈ u_ws RX1 TX1 3, w ∈ (.code yX8_lease cX8_lease 6 (some .int) :: gl) := fun w h => List.mem_cons_of_mem _ (lay_X1 w h)
  have in_X8 : ∀ w ∈ u_ws RX8 TX8 9, w ∈ (.code yX8_lease cX8_lease 6 (some .int) :: gl) := fun w h => List.mem_cons_of_mem _ (lay_X8 w h)
  have g26 : FG Z 26 8 2 := fg_mk F (C := RX8) (T := TX8) (N := 9) in_X8 rfl (by decide) rfl (List.mem_cons_of_mem _ fk_X8_26)
  have g56 : FG Z 56 8 7 := fg_mk F (C := RX8) (T := TX8) (N := 9) in_X8 rfl (by decide) rfl (List.mem_cons_of_mem _ fk_X8_56)
  have g60 : FG Z 60 8 8 := fg_mk F (C := RX8) (T := TX8) (N := 9) in_X8 rfl (by decide) rfl (List.mem_cons_of_mem _ fk_X8_60)
  have g204 : FG Z 204 1 0 := fg_mk F (C := RX1) (T := TX1) (N := 3) in_X1 rfl (by decide) rfl (List.mem_cons_of_mem _ fk_X8_204)
  obtain ⟨hO, hL, hU, hK, hS, hT, hR0⟩ := id hB
  obtain ⟨h60, ht, htk, hn, hop, hac, hopk, Cb, hC, hCb⟩ := id hO
  obtain ⟨own, en, fa, la, l1, hA, hp⟩ := id hL
  obtain ⟨s1, s2, s3, s4⟩ := id hS
  obtain ⟨S0, hS0⟩ := id hR0.1
  obtain ⟨R, Q, q, hR, hQ, hq, hok⟩ := id hR0.2
  have kb := kd_B
  have kl := kd_Log
  have ke := kd_ents
  have ks := kd_sc0 sc204
  have ks1 := kd_sc1 sc204
  have ks2 := kd_sc2 sc204
  have ks3 := kd_sc3 sc204
  have ks4 := kd_sc4 sc204
  have kt := kd_sc0 sc329
  have kt3 := kd_sc3 sc329
  have kp := kd_PT
  have kL := kd_Ls
  have cs8 := cs_scr
  have k58 := kd_458
  have k59 := kd_459
  have kr := kd_Reg
  have km := kd_marks
  have kc := kd_codes
  have k3 := kd_cols
  have k4 := kd_prows
  have kar := kd_areas
  have kow := kd_owners
  have ken := kd_ends
  have kq := kd_queue
  have kt1 := kd_sc1 sc329
  have kt2 := kd_sc2 sc329
  have hx9 : exB 256 (fun c => cloF M (fun j => rect (fa j) (la j)) (nI (a_t a)) (nI u) 6 c && rect f g c) = lsB a u f g := by
    unfold lsB
    refine exB_cong (fun c _ => ?_)
    rw [cloF_eq (by omega) (by omega) l1 hp c, Bool.and_comm]
  have hfs : ¬ (fst1 (fun j => decide (M.1 190 j ≤ nI (a_t a))) 6) < 6 := fun z => by
    have z2 := of_decide_eq_true (fst1_p z)
    have e := bp5 (by omega) l1 hp
    have e2 := ct_lt (p := fun j => inF M (nI (a_t a)) j) (j := (fst1 (fun j => decide (M.1 190 j ≤ nI (a_t a))) 6)) z (by unfold inF; rw [decide_eq_true z2]; rfl)
    omega
  refine jj_iload_n F dX8_lease_0 rfl ?_
  refine jj_callSv (na := 1) F (c_X8_refuseWrongUser hu) (gl_S mk_X8_106 vw_X8_refuseWrongUser) rfl rfl rfl (by decide +kernel) ⟨Nat.le_of_ble_eq_true rfl, Nat.le_of_ble_eq_true rfl⟩ rfl rfl (Nat.le_of_ble_eq_true rfl) ⟨Nat.le_of_ble_eq_true rfl, Nat.le_of_ble_eq_true rfl⟩ dX8_lease_1 (fun M1 hp1 => ?_)
  obtain rfl := hp1.symm
  refine jj_iload_n F dX8_lease_4 rfl ?_
  refine jj_callSv (na := 1) F (c_X8_refuseWrongCell hf) (gl_S mk_X8_151 vw_X8_refuseWrongCell) rfl rfl rfl (by decide +kernel) ⟨Nat.le_of_ble_eq_true rfl, Nat.le_of_ble_eq_true rfl⟩ rfl rfl (Nat.le_of_ble_eq_true rfl) ⟨Nat.le_of_ble_eq_true rfl, Nat.le_of_ble_eq_true rfl⟩ dX8_lease_5 (fun M5 hp5 => ?_)
  obtain rfl := hp5.symm
  refine jj_iload_n F dX8_lease_8 rfl ?_
  refine jj_callSv (na := 1) F (c_X8_refuseWrongCell hg) (gl_S mk_X8_151 vw_X8_refuseWrongCell) rfl rfl rfl (by decide +kernel) ⟨Nat.le_of_ble_eq_true rfl, Nat.le_of_ble_eq_true rfl⟩ rfl rfl (Nat.le_of_ble_eq_true rfl) ⟨Nat.le_of_ble_eq_true rfl, Nat.le_of_ble_eq_true rfl⟩ dX8_lease_9 (fun M9 hp9 => ?_)
  obtain rfl := hp9.symm
  refine jj_iload F dX8_lease_12 rfl ?_
  refine jj_iconst F (v := nI 1) dX8_lease_14 (by decide) ?_
  refine jj_icmp_lt F (tgt := 26) dX8_lease_15 (by decide) (fun h9 => absurd h9 (nI_nlt (b := 1) (by omega) (by omega))) (fun _ => ?_)
  refine jj_iload F dX8_lease_18 rfl ?_
  refine jj_sipush F (v := nI 999) dX8_lease_20 (by decide) ?_
  refine jj_icmp_le F (tgt := 36) dX8_lease_23 (by decide) (fun _ => ?_) (fun h9 => absurd (nI_le (b := 999) (by omega) (by omega)) h9)
  refine jj_aload_n F dX8_lease_36 rfl ?_
  refine jj_getr F g26 (by assumption) (by rfl) dX8_lease_37 ?_
  refine jj_iload_n F dX8_lease_40 rfl ?_
  refine jj_aload_n F dX8_lease_41 rfl ?_
  refine jj_geti F g60 (by assumption) (by rfl) dX8_lease_42 ?_
  rw [htk]
  refine jj_aload_n F dX8_lease_45 rfl ?_
  refine jj_getr F g56 (by assumption) (by rfl) dX8_lease_46 ?_
  refine jj_callVv (na := 3) F (c_X1_collectClosed (A := fun j => rect (fa j) (la j)) (u := nI u) (t := nI (a_t a)) hA cs8 (fun i hi => by omega)) (gl_V mk_X8_190 vw_X1_collectClosed) rfl rfl rfl (by decide +kernel) ⟨Nat.le_of_ble_eq_true rfl, Nat.le_of_ble_eq_true rfl⟩ (by assumption) rfl rfl rfl (Nat.le_of_ble_eq_true rfl) ⟨Nat.le_of_ble_eq_true rfl, Nat.le_of_ble_eq_true rfl⟩ dX8_lease_49 (fun M49 hp49 => ?_)
  obtain rfl := hp49.symm
  refine jj_aload_n F dX8_lease_52 rfl ?_
  refine jj_getr F g56 (by assumption) (by rfl) dX8_lease_53 ?_
  refine jj_iload_n F dX8_lease_56 rfl ?_
  refine jj_iload_n F dX8_lease_57 rfl ?_
  refine jj_callVi (na := 2) F (c_X0_meetsRectangle (M := (wA M (458 + 1) (rowsOf (cloF M (fun j => rect (fa j) (la j)) (nI (a_t a)) (nI u) 6)))) (S := cloF M (fun j => rect (fa j) (la j)) (nI (a_t a)) (nI u) 6) cs8 (wA_s _ _ _) hf hg) (gl_V mk_X8_194 vw_X0_meetsRectangle) rfl rfl rfl (by decide +kernel) ⟨Nat.le_of_ble_eq_true rfl, Nat.le_of_ble_eq_true rfl⟩ (by assumption) rfl rfl rfl (Nat.le_of_ble_eq_true rfl) ⟨Nat.le_of_ble_eq_true rfl, Nat.le_of_ble_eq_true rfl⟩ dX8_lease_58 (fun r58 M58 hp58 => ?_)
  obtain ⟨rfl, rfl⟩ := symm2 hp58
  rw [hx9]
  refine jj_if_eq F (tgt := 66) dX8_lease_61 (by decide) (fun _ => ?_) (fun h9 => absurd (by rw [hls]; rfl) h9)
  refine jj_aload_n F dX8_lease_66 rfl ?_
  refine jj_getr F g26 (by assumption) (by rfl) dX8_lease_67 ?_
  refine jj_aload_n F dX8_lease_70 rfl ?_
  refine jj_geti F g60 (by assumption) (by rfl) dX8_lease_71 ?_
  rw [show (wA M (458 + 1) (rowsOf (cloF M (fun j => rect (fa j) (la j)) (nI (a_t a)) (nI u) 6))).1 0 8 = nI (a_t a) from htk]
  refine jj_callVi (na := 1) F (c_X1_freeSlot (M := (wA M (458 + 1) (rowsOf (cloF M (fun j => rect (fa j) (la j)) (nI (a_t a)) (nI u) 6)))) (t := nI (a_t a))) (gl_V mk_X8_198 vw_X1_freeSlot) rfl rfl rfl (by decide +kernel) ⟨Nat.le_of_ble_eq_true rfl, Nat.le_of_ble_eq_true rfl⟩ (by assumption) rfl rfl rfl (Nat.le_of_ble_eq_true rfl) ⟨Nat.le_of_ble_eq_true rfl, Nat.le_of_ble_eq_true rfl⟩ dX8_lease_74 (fun r74 M74 hp74 => ?_)
  obtain ⟨rfl, rfl⟩ := symm2 hp74
  rw [show (wA M (458 + 1) (rowsOf (cloF M (fun j => rect (fa j) (la j)) (nI (a_t a)) (nI u) 6))).1 190 = M.1 190 from wA_n (by decide)]
  refine jj_istore F dX8_lease_77 (by rw [hnl]; decide) ?_
  dsimp only [lq_st, lq_clr, lq_no]
  refine jj_iload F dX8_lease_79 rfl ?_
  refine jj_iconst F (v := -1) dX8_lease_81 (by decide) ?_
  refine jj_icmp_ne F (tgt := 87) dX8_lease_82 (by decide) (fun h9 => absurd h9 (fun z => z (by rw [if_neg hfs]))) (fun _ => ?_)
  refine jj_iconst F (v := -1) dX8_lease_85 (by decide) ?_
  refine ret _ _ _ _ dX8_lease_86 (by first | rfl | exact nar_z (by first | exact Or.inl rfl | exact Or.inr rfl | exact b2i_01 _ | assumption)) ?_
  exact ⟨rfl, RelB_459 hB _⟩
set_option maxRecDepth 100000 in
set_option maxHeartbeats 6000000 in
theorem b_lease_0 {l : Launch} {E : Ee} {M : Mm} {a : Ab} {W : Nat} (hB : RelB M a W) {u f g k : Nat} (hu : u < 5) (hf : f < 256) (hg : g < 256) (hk1 : 1 ≤ k) (hk : k ≤ 999) (hls : lsB a u f g = false) (h6 : (a_lk a).length < 6) : CtI l E yX8_lease (.code yX8_lease cX8_lease 6 (some .int) :: gl) ({ frames := 3, cells := 0, slots := 0, locals := 68 } : Room) M [.ref (E.2.2 0), .int (nI u), .int (nI f), .int (nI g), .int (nI k)] 0 0 (fun r M2 => r = nI ((a_lk a).length + 1) ∧ RelB M2 (lkA a (a_lk a ++ [(u, f, g, a_t a + k)])) W) := by
  refine ctI_of (L0 := [some (.ref (E.2.2 0)), some (.int (nI u)), some (.int (nI f)), some (.int (nI g)), some (.int (nI k)), none]) (by decide) rfl (Nat.le_of_ble_eq_true rfl) rfl ?_
  intro Z hl hE hnl F ret
  subst hE
  have in_X1 : ∀ w ∈ u_ws RX1 TX1 3, w ∈ (.code yX8_lease cX8_lease 6 (some .int) :: gl) := fun w h => List.mem_cons_of_mem _ (lay_X1 w h)
  have in_X8 : ∀ w ∈ u_ws RX8 TX8 9, w ∈ (.code yX8_lease cX8_lease 6 (some .int) :: gl) := fun w h => List.mem_cons_of_mem _ (lay_X8 w h)
  have g26 : FG Z 26 8 2 := fg_mk F (C := RX8) (T := TX8) (N := 9) in_X8 rfl (by decide) rfl (List.mem_cons_of_mem _ fk_X8_26)
  have g56 : FG Z 56 8 7 := fg_mk F (C := RX8) (T := TX8) (N := 9) in_X8 rfl (by decide) rfl (List.mem_cons_of_mem _ fk_X8_56)
  have g60 : FG Z 60 8 8 := fg_mk F (C := RX8) (T := TX8) (N := 9) in_X8 rfl (by decide) rfl (List.mem_cons_of_mem _ fk_X8_60)
  have g204 : FG Z 204 1 0 := fg_mk F (C := RX1) (T := TX1) (N := 3) in_X1 rfl (by decide) rfl (List.mem_cons_of_mem _ fk_X8_204)
  obtain ⟨hO, hL, hU, hK, hS, hT, hR0⟩ := id hB
  obtain ⟨h60, ht, htk, hn, hop, hac, hopk, Cb, hC, hCb⟩ := id hO
  obtain ⟨own, en, fa, la, l1, hA, hp⟩ := id hL
  obtain ⟨s1, s2, s3, s4⟩ := id hS
  obtain ⟨S0, hS0⟩ := id hR0.1
  obtain ⟨R, Q, q, hR, hQ, hq, hok⟩ := id hR0.2
  have kb := kd_B
  have kl := kd_Log
  have ke := kd_ents
  have ks := kd_sc0 sc204
  have ks1 := kd_sc1 sc204
  have ks2 := kd_sc2 sc204
  have ks3 := kd_sc3 sc204
  have ks4 := kd_sc4 sc204
  have kt := kd_sc0 sc329
  have kt3 := kd_sc3 sc329
  have kp := kd_PT
  have kL := kd_Ls
  have cs8 := cs_scr
  have k58 := kd_458
  have k59 := kd_459
  have kr := kd_Reg
  have km := kd_marks
  have kc := kd_codes
  have k3 := kd_cols
  have k4 := kd_prows
  have kar := kd_areas
  have kow := kd_owners
  have ken := kd_ends
  have kq := kd_queue
  have kt1 := kd_sc1 sc329
  have kt2 := kd_sc2 sc329
  have hx9 : exB 256 (fun c => cloF M (fun j => rect (fa j) (la j)) (nI (a_t a)) (nI u) 6 c && rect f g c) = lsB a u f g := by
    unfold lsB
    refine exB_cong (fun c _ => ?_)
    rw [cloF_eq (by omega) (by omega) l1 hp c, Bool.and_comm]
  have hfs : (fst1 (fun j => decide (M.1 190 j ≤ nI (a_t a))) 6) < 6 := Decidable.byContradiction (fun z => by
    have z2 := fst1_n z
    have e := bp5 (by omega) l1 hp
    have e2 := ct_all (p := fun j => inF M (nI (a_t a)) j) (n := 6) (fun j hj => by unfold inF; rw [z2 j hj]; rfl)
    omega)
  have hfr := of_decide_eq_true (fst1_p hfs)
  generalize hs0 : (fst1 (fun j => decide (M.1 190 j ≤ nI (a_t a))) 6) = s at hfs hfr
  have css := cs_ls s hfs
  have hfr : en s ≤ a_t a := by
    rw [(l1 s hfs).2.1] at hfr
    exact (nI_leI (by have := (l1 s hfs).2.2.2.1; omega) (by omega)).mp hfr
  refine jj_iload_n F dX8_lease_0 rfl ?_
  refine jj_callSv (na := 1) F (c_X8_refuseWrongUser hu) (gl_S mk_X8_106 vw_X8_refuseWrongUser) rfl rfl rfl (by decide +kernel) ⟨Nat.le_of_ble_eq_true rfl, Nat.le_of_ble_eq_true rfl⟩ rfl rfl (Nat.le_of_ble_eq_true rfl) ⟨Nat.le_of_ble_eq_true rfl, Nat.le_of_ble_eq_true rfl⟩ dX8_lease_1 (fun M1 hp1 => ?_)
  obtain rfl := hp1.symm
  refine jj_iload_n F dX8_lease_4 rfl ?_
  refine jj_callSv (na := 1) F (c_X8_refuseWrongCell hf) (gl_S mk_X8_151 vw_X8_refuseWrongCell) rfl rfl rfl (by decide +kernel) ⟨Nat.le_of_ble_eq_true rfl, Nat.le_of_ble_eq_true rfl⟩ rfl rfl (Nat.le_of_ble_eq_true rfl) ⟨Nat.le_of_ble_eq_true rfl, Nat.le_of_ble_eq_true rfl⟩ dX8_lease_5 (fun M5 hp5 => ?_)
  obtain rfl := hp5.symm
  refine jj_iload_n F dX8_lease_8 rfl ?_
  refine jj_callSv (na := 1) F (c_X8_refuseWrongCell hg) (gl_S mk_X8_151 vw_X8_refuseWrongCell) rfl rfl rfl (by decide +kernel) ⟨Nat.le_of_ble_eq_true rfl, Nat.le_of_ble_eq_true rfl⟩ rfl rfl (Nat.le_of_ble_eq_true rfl) ⟨Nat.le_of_ble_eq_true rfl, Nat.le_of_ble_eq_true rfl⟩ dX8_lease_9 (fun M9 hp9 => ?_)
  obtain rfl := hp9.symm
  refine jj_iload F dX8_lease_12 rfl ?_
  refine jj_iconst F (v := nI 1) dX8_lease_14 (by decide) ?_
  refine jj_icmp_lt F (tgt := 26) dX8_lease_15 (by decide) (fun h9 => absurd h9 (nI_nlt (b := 1) (by omega) (by omega))) (fun _ => ?_)
  refine jj_iload F dX8_lease_18 rfl ?_
  refine jj_sipush F (v := nI 999) dX8_lease_20 (by decide) ?_
  refine jj_icmp_le F (tgt := 36) dX8_lease_23 (by decide) (fun _ => ?_) (fun h9 => absurd (nI_le (b := 999) (by omega) (by omega)) h9)
  refine jj_aload_n F dX8_lease_36 rfl ?_
  refine jj_getr F g26 (by assumption) (by rfl) dX8_lease_37 ?_
  refine jj_iload_n F dX8_lease_40 rfl ?_
  refine jj_aload_n F dX8_lease_41 rfl ?_
  refine jj_geti F g60 (by assumption) (by rfl) dX8_lease_42 ?_
  rw [htk]
  refine jj_aload_n F dX8_lease_45 rfl ?_
  refine jj_getr F g56 (by assumption) (by rfl) dX8_lease_46 ?_
  refine jj_callVv (na := 3) F (c_X1_collectClosed (A := fun j => rect (fa j) (la j)) (u := nI u) (t := nI (a_t a)) hA cs8 (fun i hi => by omega)) (gl_V mk_X8_190 vw_X1_collectClosed) rfl rfl rfl (by decide +kernel) ⟨Nat.le_of_ble_eq_true rfl, Nat.le_of_ble_eq_true rfl⟩ (by assumption) rfl rfl rfl (Nat.le_of_ble_eq_true rfl) ⟨Nat.le_of_ble_eq_true rfl, Nat.le_of_ble_eq_true rfl⟩ dX8_lease_49 (fun M49 hp49 => ?_)
  obtain rfl := hp49.symm
  refine jj_aload_n F dX8_lease_52 rfl ?_
  refine jj_getr F g56 (by assumption) (by rfl) dX8_lease_53 ?_
  refine jj_iload_n F dX8_lease_56 rfl ?_
  refine jj_iload_n F dX8_lease_57 rfl ?_
  refine jj_callVi (na := 2) F (c_X0_meetsRectangle (M := (wA M (458 + 1) (rowsOf (cloF M (fun j => rect (fa j) (la j)) (nI (a_t a)) (nI u) 6)))) (S := cloF M (fun j => rect (fa j) (la j)) (nI (a_t a)) (nI u) 6) cs8 (wA_s _ _ _) hf hg) (gl_V mk_X8_194 vw_X0_meetsRectangle) rfl rfl rfl (by decide +kernel) ⟨Nat.le_of_ble_eq_true rfl, Nat.le_of_ble_eq_true rfl⟩ (by assumption) rfl rfl rfl (Nat.le_of_ble_eq_true rfl) ⟨Nat.le_of_ble_eq_true rfl, Nat.le_of_ble_eq_true rfl⟩ dX8_lease_58 (fun r58 M58 hp58 => ?_)
  obtain ⟨rfl, rfl⟩ := symm2 hp58
  rw [hx9]
  refine jj_if_eq F (tgt := 66) dX8_lease_61 (by decide) (fun _ => ?_) (fun h9 => absurd (by rw [hls]; rfl) h9)
  refine jj_aload_n F dX8_lease_66 rfl ?_
  refine jj_getr F g26 (by assumption) (by rfl) dX8_lease_67 ?_
  refine jj_aload_n F dX8_lease_70 rfl ?_
  refine jj_geti F g60 (by assumption) (by rfl) dX8_lease_71 ?_
  rw [show (wA M (458 + 1) (rowsOf (cloF M (fun j => rect (fa j) (la j)) (nI (a_t a)) (nI u) 6))).1 0 8 = nI (a_t a) from htk]
  refine jj_callVi (na := 1) F (c_X1_freeSlot (M := (wA M (458 + 1) (rowsOf (cloF M (fun j => rect (fa j) (la j)) (nI (a_t a)) (nI u) 6)))) (t := nI (a_t a))) (gl_V mk_X8_198 vw_X1_freeSlot) rfl rfl rfl (by decide +kernel) ⟨Nat.le_of_ble_eq_true rfl, Nat.le_of_ble_eq_true rfl⟩ (by assumption) rfl rfl rfl (Nat.le_of_ble_eq_true rfl) ⟨Nat.le_of_ble_eq_true rfl, Nat.le_of_ble_eq_true rfl⟩ dX8_lease_74 (fun r74 M74 hp74 => ?_)
  obtain ⟨rfl, rfl⟩ := symm2 hp74
  rw [show (wA M (458 + 1) (rowsOf (cloF M (fun j => rect (fa j) (la j)) (nI (a_t a)) (nI u) 6))).1 190 = M.1 190 from wA_n (by decide)]
  rw [hs0, if_pos hfs]
  refine jj_istore F dX8_lease_77 (by rw [hnl]; decide) ?_
  dsimp only [lq_st, lq_clr, lq_no]
  refine jj_iload F dX8_lease_79 rfl ?_
  refine jj_iconst F (v := -1) dX8_lease_81 (by decide) ?_
  refine jj_icmp_ne F (tgt := 87) dX8_lease_82 (by decide) (fun _ => ?_) (fun h9 => absurd h9 (nI_m1 (by omega)))
  refine jj_aload_n F dX8_lease_87 rfl ?_
  refine jj_getr F g26 (by assumption) (by rfl) dX8_lease_88 ?_
  refine jj_iload F dX8_lease_91 rfl ?_
  refine jj_iload_n F dX8_lease_93 rfl ?_
  refine jj_aload_n F dX8_lease_94 rfl ?_
  refine jj_geti F g60 (by assumption) (by rfl) dX8_lease_95 ?_
  refine jj_topi (show _ = nI (a_t a) from htk) ?_
  refine jj_iload F dX8_lease_98 rfl ?_
  refine jj_iadd F dX8_lease_100 ?_
  rw [nI_add]
  refine jj_callVv (na := 3) F (c_X1_begin (M := (wA M (458 + 1) (rowsOf (cloF M (fun j => rect (fa j) (la j)) (nI (a_t a)) (nI u) 6)))) (q := s) (ow := nI u) (en := nI (a_t a + k)) hfs) (gl_V mk_X8_201 vw_X1_begin) rfl rfl rfl (by decide +kernel) ⟨Nat.le_of_ble_eq_true rfl, Nat.le_of_ble_eq_true rfl⟩ (by assumption) rfl rfl rfl (Nat.le_of_ble_eq_true rfl) ⟨Nat.le_of_ble_eq_true rfl, Nat.le_of_ble_eq_true rfl⟩ dX8_lease_101 (fun M101 hp101 => ?_)
  obtain rfl := hp101.symm
  refine jj_aload_n F dX8_lease_104 rfl ?_
  refine jj_getr F g26 (by assumption) (by rfl) dX8_lease_105 ?_
  refine jj_getr F g204 (by assumption) (by rfl) dX8_lease_108 ?_
  refine jj_iload F dX8_lease_111 rfl ?_
  refine jj_aald F kar rfl hfs dX8_lease_113 ?_
  refine jj_iload_n F dX8_lease_114 rfl ?_
  refine jj_iload_n F dX8_lease_115 rfl ?_
  refine jj_callVv (na := 2) F (c_X0_becomeRectangle (k := 191 + 2 * s) (a := f) (b := g) css hf hg) (gl_V mk_X8_208 vw_X0_becomeRectangle) rfl rfl rfl (by decide +kernel) ⟨Nat.le_of_ble_eq_true rfl, Nat.le_of_ble_eq_true rfl⟩ css.1 rfl rfl rfl (Nat.le_of_ble_eq_true rfl) ⟨Nat.le_of_ble_eq_true rfl, Nat.le_of_ble_eq_true rfl⟩ dX8_lease_116 (fun N9 hp116 => ?_)
  have hRL := RelL_add (M := M) (M2 := N9) (u := u) (k := k) l1 hA hp hfs hfr (by omega) hu hf hg hk1 hk (by rw [hp116, wA_n (by omega), wA_n (by decide), wA_s, wA_n (by decide)]) (by rw [hp116, wA_n (by omega), wA_s, wA_n (by decide)]) (by rw [hp116, wA_s]) (fun j hj h => by rw [hp116, wA_n (by omega), wA_n (by omega), wA_n (by omega), wA_n (by omega)])
  have hNo : ∀ x, x < 189 ∨ 203 ≤ x → x ≠ 459 → N9.1 x = M.1 x := fun x h1 h2 => by rw [hp116, wA_n (by omega), wA_n (by omega), wA_n (by omega), wA_n (by omega)]
  have hN8 : N9.1 0 8 = nI (a_t a) := by rw [hNo 0 (by omega) (by omega)]; exact htk
  have hN2 : N9.2 = M.2 := by rw [hp116]; rfl
  have hNR : RelR N9 := by
    rw [hp116]
    exact RelR_ag (M := wA M 459 (rowsOf (cloF M (fun j => rect (fa j) (la j)) (nI (a_t a)) (nI u) 6))) (RelR_459 hR0 _) (by rw [wA_n (by omega), wA_n (by omega), wA_n (by omega)]) (by rw [wA_n (by omega), wA_n (by omega), wA_n (by omega)]) (by rw [wA_n (by omega), wA_n (by omega), wA_n (by omega)]) (by rw [wA_n (by omega), wA_n (by omega), wA_n (by omega)])
  clear hp116
  refine jj_aload_n F dX8_lease_119 rfl ?_
  refine jj_getr F g26 (by assumption) (by rfl) dX8_lease_120 ?_
  refine jj_aload_n F dX8_lease_123 rfl ?_
  refine jj_geti F g60 (by assumption) (by rfl) dX8_lease_124 ?_
  rw [hN8]
  refine jj_callVi (na := 1) F (c_X1_inForce (t := nI (a_t a))) (gl_V mk_X8_212 vw_X1_inForce) rfl rfl rfl (by decide +kernel) ⟨Nat.le_of_ble_eq_true rfl, Nat.le_of_ble_eq_true rfl⟩ (by assumption) rfl rfl rfl (Nat.le_of_ble_eq_true rfl) ⟨Nat.le_of_ble_eq_true rfl, Nat.le_of_ble_eq_true rfl⟩ dX8_lease_127 (fun r127 M127 hp127 => ?_)
  obtain ⟨rfl, rfl⟩ := symm2 hp127
  refine ret _ _ _ _ dX8_lease_130 (by first | rfl | exact nar_z (by first | exact Or.inl rfl | exact Or.inr rfl | exact b2i_01 _ | assumption)) ?_
  exact ⟨by rw [bp5 (by omega) hRL.1 hRL.2.2, List.length_append]; rfl, RelB_lk hB ⟨_, _, _, _, hRL⟩ hNR hNo hN2⟩
set_option maxRecDepth 100000 in
set_option maxHeartbeats 1000000 in
theorem b_setMark_0 {l : Launch} {E : Ee} {M : Mm} {a : Ab} {W : Nat} (hB : RelB M a W) {m : Nat} (hm : m < 6) : CtI l E yX8_setMark (.code yX8_setMark cX8_setMark 2 (some .int) :: gl) ({ frames := 1, cells := 0, slots := 0, locals := 23 } : Room) M [.ref (E.2.2 0), .int (nI m)] 0 0 (fun r M2 => r = nI (a_n a) ∧ RelB M2 (mkA a m) W) := by
  refine ctI_of (L0 := [some (.ref (E.2.2 0)), some (.int (nI m))]) (by decide) rfl (Nat.le_of_ble_eq_true rfl) rfl ?_
  intro Z hl hE hnl F ret
  subst hE
  have in_X2 : ∀ w ∈ u_ws RX2 TX2 3, w ∈ (.code yX8_setMark cX8_setMark 2 (some .int) :: gl) := fun w h => List.mem_cons_of_mem _ (lay_X2 w h)
  have in_X8 : ∀ w ∈ u_ws RX8 TX8 9, w ∈ (.code yX8_setMark cX8_setMark 2 (some .int) :: gl) := fun w h => List.mem_cons_of_mem _ (lay_X8 w h)
  have g19 : FG Z 19 8 1 := fg_mk F (C := RX8) (T := TX8) (N := 9) in_X8 rfl (by decide) rfl (List.mem_cons_of_mem _ fk_X8_19)
  have g32 : FG Z 32 8 3 := fg_mk F (C := RX8) (T := TX8) (N := 9) in_X8 rfl (by decide) rfl (List.mem_cons_of_mem _ fk_X8_32)
  have g39 : FG Z 39 8 4 := fg_mk F (C := RX8) (T := TX8) (N := 9) in_X8 rfl (by decide) rfl (List.mem_cons_of_mem _ fk_X8_39)
  have g65 : FG Z 65 2 1 := fg_mk F (C := RX2) (T := TX2) (N := 3) in_X2 rfl (by decide) rfl (List.mem_cons_of_mem _ fk_X8_65)
  obtain ⟨hO, hL, hU, hK, hS, hT, hR0⟩ := id hB
  obtain ⟨h60, ht, htk, hn, hop, hac, hopk, Cb, hC, hCb⟩ := id hO
  obtain ⟨own, en, fa, la, l1, hA, hp⟩ := id hL
  obtain ⟨s1, s2, s3, s4⟩ := id hS
  obtain ⟨S0, hS0⟩ := id hR0.1
  obtain ⟨R, Q, q, hR, hQ, hq, hok⟩ := id hR0.2
  have kb := kd_B
  have kl := kd_Log
  have ke := kd_ents
  have ks := kd_sc0 sc204
  have ks1 := kd_sc1 sc204
  have ks2 := kd_sc2 sc204
  have ks3 := kd_sc3 sc204
  have ks4 := kd_sc4 sc204
  have kt := kd_sc0 sc329
  have kt3 := kd_sc3 sc329
  have kp := kd_PT
  have kL := kd_Ls
  have cs8 := cs_scr
  have k58 := kd_458
  have k59 := kd_459
  have kr := kd_Reg
  have km := kd_marks
  have kc := kd_codes
  have k3 := kd_cols
  have k4 := kd_prows
  have kar := kd_areas
  have kow := kd_owners
  have ken := kd_ends
  have kq := kd_queue
  have kt1 := kd_sc1 sc329
  have kt2 := kd_sc2 sc329
  have km0 := kd_mk0 m hm
  refine jj_iload_n F dX8_setMark_0 rfl ?_
  refine jj_callSv (na := 1) F (c_X8_refuseWrongMark hm) (gl_S mk_X8_222 vw_X8_refuseWrongMark) rfl rfl rfl (by decide +kernel) ⟨Nat.le_of_ble_eq_true rfl, Nat.le_of_ble_eq_true rfl⟩ rfl rfl (Nat.le_of_ble_eq_true rfl) ⟨Nat.le_of_ble_eq_true rfl, Nat.le_of_ble_eq_true rfl⟩ dX8_setMark_1 (fun M1 hp1 => ?_)
  obtain rfl := hp1.symm
  refine jj_aload_n F dX8_setMark_4 rfl ?_
  refine jj_getr F g32 (by assumption) (by rfl) dX8_setMark_5 ?_
  refine jj_iload_n F dX8_setMark_8 rfl ?_
  refine jj_aald F (by assumption) rfl (by omega) dX8_setMark_9 ?_
  refine jj_aload_n F dX8_setMark_10 rfl ?_
  refine jj_getr F g19 (by assumption) (by rfl) dX8_setMark_11 ?_
  refine jj_aload_n F dX8_setMark_14 rfl ?_
  refine jj_getr F g39 (by assumption) (by rfl) dX8_setMark_15 ?_
  refine jj_callVv (na := 2) F (c_X3_keep (m := m) hm sc204 hn h60 (fun j hj => by rw [hac j hj]; exact b2i_01 _)) (gl_V mk_X8_225 vw_X3_keep) rfl rfl rfl (by decide +kernel) ⟨Nat.le_of_ble_eq_true rfl, Nat.le_of_ble_eq_true rfl⟩ (by assumption) rfl rfl rfl (Nat.le_of_ble_eq_true rfl) ⟨Nat.le_of_ble_eq_true rfl, Nat.le_of_ble_eq_true rfl⟩ dX8_setMark_18 (fun M18 hp18 => ?_)
  obtain rfl := hp18.symm
  refine jj_aload_n F dX8_setMark_21 rfl ?_
  refine jj_getr F g19 (by assumption) (by rfl) dX8_setMark_22 ?_
  refine jj_geti F g65 (by assumption) (by rfl) dX8_setMark_25 ?_
  rw [wA_1n (by omega), wA_1n (by omega), wA_1n (by omega), hn]
  refine ret _ _ _ _ dX8_setMark_28 (by first | rfl | exact nar_z (by first | exact Or.inl rfl | exact Or.inr rfl | exact b2i_01 _ | assumption)) ?_
  refine ⟨rfl, RelB_mk hB hm ?_ ?_ (fun j hj => ?_) (wA_s _ _ _) (fun x h1 h2 h3 => by rw [wA_n h3, wA_n h2, wA_n h1]) rfl⟩
  · rw [wA_n (by omega), wA_n (by omega), wA_1s]; rfl
  · rw [wA_n (by omega), wA_n (by omega), wA_1s]; rfl
  · rw [wA_n (by omega), wA_1s, fl_in hj]
set_option maxRecDepth 100000 in
set_option maxHeartbeats 1000000 in
theorem b_rewind_0 {l : Launch} {E : Ee} {M : Mm} {a : Ab} {W : Nat} (hB : RelB M a W) {m : Nat} (hm : m < 6) (hs9 : (a_mk a m).1 = true) : CtI l E yX8_rewind (.code yX8_rewind cX8_rewind 4 (some .int) :: gl) ({ frames := 5, cells := 0, slots := 0, locals := 115 } : Room) M [.ref (E.2.2 0), .int (nI m)] 0 0 (fun r M2 => r = nI (a_n a - (a_mk a m).2.1) ∧ RelB M2 (rwA a m) W) := by
  refine ctI_of (L0 := [some (.ref (E.2.2 0)), some (.int (nI m)), none, none]) (by decide) rfl (Nat.le_of_ble_eq_true rfl) rfl ?_
  intro Z hl hE hnl F ret
  subst hE
  have in_X2 : ∀ w ∈ u_ws RX2 TX2 3, w ∈ (.code yX8_rewind cX8_rewind 4 (some .int) :: gl) := fun w h => List.mem_cons_of_mem _ (lay_X2 w h)
  have in_X3 : ∀ w ∈ u_ws RX3 TX3 4, w ∈ (.code yX8_rewind cX8_rewind 4 (some .int) :: gl) := fun w h => List.mem_cons_of_mem _ (lay_X3 w h)
  have in_X8 : ∀ w ∈ u_ws RX8 TX8 9, w ∈ (.code yX8_rewind cX8_rewind 4 (some .int) :: gl) := fun w h => List.mem_cons_of_mem _ (lay_X8 w h)
  have g19 : FG Z 19 8 1 := fg_mk F (C := RX8) (T := TX8) (N := 9) in_X8 rfl (by decide) rfl (List.mem_cons_of_mem _ fk_X8_19)
  have g32 : FG Z 32 8 3 := fg_mk F (C := RX8) (T := TX8) (N := 9) in_X8 rfl (by decide) rfl (List.mem_cons_of_mem _ fk_X8_32)
  have g65 : FG Z 65 2 1 := fg_mk F (C := RX2) (T := TX2) (N := 3) in_X2 rfl (by decide) rfl (List.mem_cons_of_mem _ fk_X8_65)
  have g237 : FG Z 237 3 1 := fg_mk F (C := RX3) (T := TX3) (N := 4) in_X3 rfl (by decide) rfl (List.mem_cons_of_mem _ fk_X8_237)
  have p71 : FP Z 71 3 0 .boolean := fp_mk F (C := RX3) (T := TX3) (N := 4) in_X3 tyX3_ok nmX3 rfl (by decide) rfl (List.mem_cons_of_mem _ fk_X8_71) rfl (by decide +kernel)
  obtain ⟨hO, hL, hU, hK, hS, hT, hR0⟩ := id hB
  obtain ⟨h60, ht, htk, hn, hop, hac, hopk, Cb, hC, hCb⟩ := id hO
  obtain ⟨own, en, fa, la, l1, hA, hp⟩ := id hL
  obtain ⟨s1, s2, s3, s4⟩ := id hS
  obtain ⟨S0, hS0⟩ := id hR0.1
  obtain ⟨R, Q, q, hR, hQ, hq, hok⟩ := id hR0.2
  have kb := kd_B
  have kl := kd_Log
  have ke := kd_ents
  have ks := kd_sc0 sc204
  have ks1 := kd_sc1 sc204
  have ks2 := kd_sc2 sc204
  have ks3 := kd_sc3 sc204
  have ks4 := kd_sc4 sc204
  have kt := kd_sc0 sc329
  have kt3 := kd_sc3 sc329
  have kp := kd_PT
  have kL := kd_Ls
  have cs8 := cs_scr
  have k58 := kd_458
  have k59 := kd_459
  have kr := kd_Reg
  have km := kd_marks
  have kc := kd_codes
  have k3 := kd_cols
  have k4 := kd_prows
  have kar := kd_areas
  have kow := kd_owners
  have ken := kd_ends
  have kq := kd_queue
  have kt1 := kd_sc1 sc329
  have kt2 := kd_sc2 sc329
  have km0 := kd_mk0 m hm
  have km1 := kd_mk1 m hm
  have km2 := kd_mk2 m hm
  obtain ⟨mk1, mk2, mk3, mk4⟩ := (hK m hm).2 hs9
  have h60m : (a_mk a m).2.1 ≤ 60 := by omega
  have nO : ∀ x, 187 ≤ x → (fam 7 3 (a_mk a m).2.1 (gbF M m) (wA M 5 (upd (M.1 5) 1 (nI (a_mk a m).2.1)))).1 x = M.1 x := fun x hx => by rw [fam_out (fun i hi => by omega), wA_n (by omega)]
  have hFs : ∀ i, (fam 460 3 i (fun j => if nI (a_mk a m).2.1 < M.1 (460 + 3 * j) 1 then upd (M.1 (460 + 3 * j)) 0 (nI 0) else M.1 (460 + 3 * j)) (fam 7 3 (a_mk a m).2.1 (gbF M m) (wA M 5 (upd (M.1 5) 1 (nI (a_mk a m).2.1))))).1 5 1 = nI (a_mk a m).2.1 := fun i => by rw [fam_out (fun j hj => by omega), fam_out (fun j hj => by omega), wA_1s]; rfl
  have l1 : ∀ i, i ≤ 6 → JJ Z (0, 0) (fam 460 3 i (fun j => if nI (a_mk a m).2.1 < M.1 (460 + 3 * j) 1 then upd (M.1 (460 + 3 * j)) 0 (nI 0) else M.1 (460 + 3 * j)) (fam 7 3 (a_mk a m).2.1 (gbF M m) (wA M 5 (upd (M.1 5) 1 (nI (a_mk a m).2.1))))) 42 [some (.ref ((zE Z).2.2 0)), some (.int (nI m)), some (.int (nI (a_n a - (a_mk a m).2.1))), some (.int (nI i))] [] := by
    refine jj_loop (6) ?_ ?_
    · refine jj_iload_n F dX8_rewind_42 rfl ?_
      refine jj_bipush F (v := nI 6) dX8_rewind_43 (by decide) ?_
      refine jj_icmp_ge F (tgt := 83) dX8_rewind_45 (by decide) (fun _ => ?_) (fun h9 => absurd (nI_le (by omega) (by omega)) h9)
      refine jj_aload_n F dX8_rewind_83 rfl ?_
      refine jj_callVv (na := 0) F (b_show (a := rwA a m) (by exact RelP_rw hB hm hs9 (hFs 6) (by rw [fam_out (fun j hj => by omega), fam_out (fun j hj => by omega), wA_1s]; rfl) (fun i hi => by rw [fam_out (fun j hj => by omega), fam_in (by omega) hi]; rfl) (fun i hi => by rw [fam_out (fun j hj => by omega), fam_in (by omega) hi]; rfl) (fun i hi b hb => by rw [fam_out (fun j hj => by omega), fam_in (by omega) hi]; unfold gbF; rw [upd_o (by omega), upd_o (by omega)]) (fun j hj => by rw [fam_in (by omega) hj]; split <;> rfl) (fun j hj => by rw [fam_in (by omega) hj]; split <;> rfl) (fun x h1 h2 h3 h4 => by rw [fam_out (fun j hj => h4 j hj), fam_out (fun i hi => h3 i (by omega)), wA_n h2]) rfl)) (gl_V mk_X8_75 vw_X8_showNow) rfl rfl rfl (by decide +kernel) ⟨Nat.le_of_ble_eq_true rfl, Nat.le_of_ble_eq_true rfl⟩ (by assumption) rfl rfl rfl (Nat.le_of_ble_eq_true rfl) ⟨Nat.le_of_ble_eq_true rfl, Nat.le_of_ble_eq_true rfl⟩ dX8_rewind_84 (fun MS hS9 => ?_)
      refine jj_iload_n F dX8_rewind_87 rfl ?_
      refine ret _ _ _ _ dX8_rewind_88 (by first | rfl | exact nar_z (by first | exact Or.inl rfl | exact Or.inr rfl | exact b2i_01 _ | assumption)) ?_
      exact ⟨rfl, hS9⟩
    · intro i hi ih
      have kmi := kd_mk0 i hi
      refine jj_iload_n F dX8_rewind_42 rfl ?_
      refine jj_bipush F (v := nI 6) dX8_rewind_43 (by decide) ?_
      refine jj_icmp_ge F (tgt := 83) dX8_rewind_45 (by decide) (fun h9 => absurd h9 (nI_ge (by omega) (by omega))) (fun _ => ?_)
      refine jj_aload_n F dX8_rewind_48 rfl ?_
      refine jj_getr F g32 (by assumption) (by rfl) dX8_rewind_49 ?_
      refine jj_iload_n F dX8_rewind_52 rfl ?_
      refine jj_aald F (by assumption) rfl (by omega) dX8_rewind_53 ?_
      refine jj_geti F g237 (by assumption) (by rfl) dX8_rewind_54 ?_
      rw [fam_at (by omega), nO _ (by omega)]
      refine jj_aload_n F dX8_rewind_57 rfl ?_
      refine jj_getr F g19 (by assumption) (by rfl) dX8_rewind_58 ?_
      refine jj_geti F g65 (by assumption) (by rfl) dX8_rewind_61 ?_
      rw [hFs i]
      refine jj_icmp_le F (tgt := 77) dX8_rewind_64 (by decide) (fun h64 => ?_) (fun h64 => ?_)
      · refine jj_iinc F dX8_rewind_77 rfl (by first | exact iinc1 _ | rfl) (by rw [hnl]; decide) ?_
        dsimp only [lq_st, lq_clr, lq_no]
        refine jj_goto F (tgt := 42) dX8_rewind_80 (by decide) ?_
        first
        | (have z : M.1 (460 + 3 * i) 1 ≤ nI (a_mk a m).2.1 := h64; rw [fam_skip (g := (fun j => if nI (a_mk a m).2.1 < M.1 (460 + 3 * j) 1 then upd (M.1 (460 + 3 * j)) 0 (nI 0) else M.1 (460 + 3 * j))) (by omega) (by rw [nO _ (by omega)]; exact (if_neg (i32_le_nlt z)).symm)]; exact ih)
        | (have z : ¬ M.1 (460 + 3 * i) 1 ≤ nI (a_mk a m).2.1 := h64; rw [fam_at (by omega), nO _ (by omega), show upd (M.1 (460 + 3 * i)) 0 (nI 0) = (fun j => if nI (a_mk a m).2.1 < M.1 (460 + 3 * j) 1 then upd (M.1 (460 + 3 * j)) 0 (nI 0) else M.1 (460 + 3 * j)) i from (if_pos (i32_nle z)).symm, fam_s (by omega)]; exact ih)
      · refine jj_aload_n F dX8_rewind_67 rfl ?_
        refine jj_getr F g32 (by assumption) (by rfl) dX8_rewind_68 ?_
        refine jj_iload_n F dX8_rewind_71 rfl ?_
        refine jj_aald F (by assumption) rfl (by omega) dX8_rewind_72 ?_
        refine jj_iconst F (v := nI 0) dX8_rewind_73 (by decide) ?_
        refine jj_putz F p71 (by assumption) (by rfl) (by first | exact Or.inl rfl | exact Or.inr rfl | exact b2i_01 _ | assumption) dX8_rewind_74 ?_
        refine jj_iinc F dX8_rewind_77 rfl (by first | exact iinc1 _ | rfl) (by rw [hnl]; decide) ?_
        dsimp only [lq_st, lq_clr, lq_no]
        refine jj_goto F (tgt := 42) dX8_rewind_80 (by decide) ?_
        first
        | (have z : M.1 (460 + 3 * i) 1 ≤ nI (a_mk a m).2.1 := h64; rw [fam_skip (g := (fun j => if nI (a_mk a m).2.1 < M.1 (460 + 3 * j) 1 then upd (M.1 (460 + 3 * j)) 0 (nI 0) else M.1 (460 + 3 * j))) (by omega) (by rw [nO _ (by omega)]; exact (if_neg (i32_le_nlt z)).symm)]; exact ih)
        | (have z : ¬ M.1 (460 + 3 * i) 1 ≤ nI (a_mk a m).2.1 := h64; rw [fam_at (by omega), nO _ (by omega), show upd (M.1 (460 + 3 * i)) 0 (nI 0) = (fun j => if nI (a_mk a m).2.1 < M.1 (460 + 3 * j) 1 then upd (M.1 (460 + 3 * j)) 0 (nI 0) else M.1 (460 + 3 * j)) i from (if_pos (i32_nle z)).symm, fam_s (by omega)]; exact ih)
  refine jj_iload_n F dX8_rewind_0 rfl ?_
  refine jj_callSv (na := 1) F (c_X8_refuseWrongMark hm) (gl_S mk_X8_222 vw_X8_refuseWrongMark) rfl rfl rfl (by decide +kernel) ⟨Nat.le_of_ble_eq_true rfl, Nat.le_of_ble_eq_true rfl⟩ rfl rfl (Nat.le_of_ble_eq_true rfl) ⟨Nat.le_of_ble_eq_true rfl, Nat.le_of_ble_eq_true rfl⟩ dX8_rewind_1 (fun M1 hp1 => ?_)
  obtain rfl := hp1.symm
  refine jj_aload_n F dX8_rewind_4 rfl ?_
  refine jj_iload_n F dX8_rewind_5 rfl ?_
  refine jj_callVv (na := 1) F (c_X8_refuseUnsetMark hB hm hs9) (gl_V mk_X8_229 vw_X8_refuseUnsetMark) rfl rfl rfl (by decide +kernel) ⟨Nat.le_of_ble_eq_true rfl, Nat.le_of_ble_eq_true rfl⟩ (by assumption) rfl rfl rfl (Nat.le_of_ble_eq_true rfl) ⟨Nat.le_of_ble_eq_true rfl, Nat.le_of_ble_eq_true rfl⟩ dX8_rewind_6 (fun M6 hp6 => ?_)
  obtain rfl := hp6.symm
  refine jj_aload_n F dX8_rewind_9 rfl ?_
  refine jj_getr F g19 (by assumption) (by rfl) dX8_rewind_10 ?_
  refine jj_geti F g65 (by assumption) (by rfl) dX8_rewind_13 ?_
  rw [hn]
  refine jj_aload_n F dX8_rewind_16 rfl ?_
  refine jj_getr F g32 (by assumption) (by rfl) dX8_rewind_17 ?_
  refine jj_iload_n F dX8_rewind_20 rfl ?_
  refine jj_aald F (by assumption) rfl (by omega) dX8_rewind_21 ?_
  refine jj_geti F g237 (by assumption) (by rfl) dX8_rewind_22 ?_
  rw [mk1]
  refine jj_isub F dX8_rewind_25 ?_
  rw [pk_sub mk2]
  refine jj_istore_n F dX8_rewind_26 (by rw [hnl]; decide) ?_
  dsimp only [lq_st, lq_clr, lq_no]
  refine jj_aload_n F dX8_rewind_27 rfl ?_
  refine jj_getr F g19 (by assumption) (by rfl) dX8_rewind_28 ?_
  refine jj_aload_n F dX8_rewind_31 rfl ?_
  refine jj_getr F g32 (by assumption) (by rfl) dX8_rewind_32 ?_
  refine jj_iload_n F dX8_rewind_35 rfl ?_
  refine jj_aald F (by assumption) rfl (by omega) dX8_rewind_36 ?_
  refine jj_callVv (na := 1) F (c_X2_goBack (m := m) (n := (a_mk a m).2.1) hm mk1 h60m (fun j hj => by rw [mk3 j hj]; exact b2i_01 _)) (gl_V mk_X8_238 vw_X2_goBack) rfl rfl rfl (by decide +kernel) ⟨Nat.le_of_ble_eq_true rfl, Nat.le_of_ble_eq_true rfl⟩ (by assumption) rfl rfl rfl (Nat.le_of_ble_eq_true rfl) ⟨Nat.le_of_ble_eq_true rfl, Nat.le_of_ble_eq_true rfl⟩ dX8_rewind_37 (fun M37 hp37 => ?_)
  obtain rfl := hp37.symm
  refine jj_iconst F (v := nI 0) dX8_rewind_40 (by decide) ?_
  refine jj_istore_n F dX8_rewind_41 (by rw [hnl]; decide) ?_
  dsimp only [lq_st, lq_clr, lq_no]
  refine jj_eqM ?_ (l1 0 (by omega))
  rw [fam_0]
