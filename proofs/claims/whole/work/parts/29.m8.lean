set_option maxRecDepth 100000 in
set_option maxHeartbeats 1000000 in
theorem c_X9_counted {l : Launch} {E : Ee} {M : Mm} {a : Ab} {W : Nat} (hD : Ld M a W) {w : Nat} (hw : w < 10) : CtI l E yX9_counted (.code yX9_counted cX9_counted 2 (some .int) :: gl) ({ frames := 5, cells := 0, slots := 0, locals := 118 } : Room) M [.ref (E.2.2 478), .int (nI w)] 0 0 (fun r M2 => r = bpA a w ∧ Ld M2 a W ∧ Fr M M2) := by
  refine ctI_of (L0 := [some (.ref (E.2.2 478)), some (.int (nI w))]) (by decide) rfl (Nat.le_of_ble_eq_true rfl) rfl ?_
  intro Z hl hE hnl F ret
  subst hE
  have in_X9 : ∀ w ∈ u_ws RX9 TX9 33, w ∈ (.code yX9_counted cX9_counted 2 (some .int) :: gl) := fun w h => List.mem_cons_of_mem _ (lay_X9 w h)
  have g95 : FG Z 95 9 2 := fg_mk F (C := RX9) (T := TX9) (N := 33) in_X9 rfl (by decide) rfl (List.mem_cons_of_mem _ fk_X9_95)
  have g126 : FG Z 126 9 1 := fg_mk F (C := RX9) (T := TX9) (N := 33) in_X9 rfl (by decide) rfl (List.mem_cons_of_mem _ fk_X9_126)
  have g136 : FG Z 136 9 13 := fg_mk F (C := RX9) (T := TX9) (N := 33) in_X9 rfl (by decide) rfl (List.mem_cons_of_mem _ fk_X9_136)
  have kM := kd_M
  have k479 := kd_479
  have k480 := kd_480
  have k481 := kd_481
  have k482 := kd_482
  have k483 := kd_483
  have k484 := kd_484
  have k485 := kd_485
  have k486 := kd_486
  have k487 := kd_487
  have k488 := kd_488
  have k489 := kd_489
  have k490 := kd_490
  have k491 := kd_491
  have k492 := kd_492
  have k493 := kd_493
  have k494 := kd_494
  have k495 := kd_495
  have k496 := kd_496
  have k497 := kd_497
  have k498 := kd_498
  have k499 := kd_499
  have k500 := kd_500
  have k501 := kd_501
  have k502 := kd_502
  have k503 := kd_503
  have hTO := Ld_tops hD
  have hMR := hD.1
  obtain ⟨⟨h60, ht, htk, hn, hop, hac, hun, hopk, ⟨u0, hu1, hu2, hu3⟩, C, hC, hCa⟩, ⟨hlk, hll, hlz⟩, hK, ⟨hln, hl40, htx⟩, -⟩ := id hMR
  obtain ⟨-, ⟨L, hL, hLa⟩, hf⟩ := id hD
  have hmlh := ml_h hMR.2.1
  rcases (show w = 0 ∨ w = 1 ∨ w = 2 ∨ w = 3 ∨ w = 4 ∨ w = 5 ∨ w = 6 ∨ w = 7 ∨ w = 8 ∨ w = 9 by omega) with rfl | rfl | rfl | rfl | rfl | rfl | rfl | rfl | rfl | rfl
  · refine jj_iload_n F dX9_counted_0 rfl ?_
    refine jj_tableIn F (off := 51) (tgt := 52) dX9_counted_1 (by decide) (by decide) (by decide) (by decide) ?_
    refine jj_aload_n F dX9_counted_52 rfl ?_
    refine jj_geti F g126 (by assumption) (by rfl) dX9_counted_53 ?_
    refine ret _ _ _ _ dX9_counted_56 (by first | rfl | exact nar_z (by first | exact Or.inl rfl | exact Or.inr rfl | exact b2i_01 _ | assumption)) ?_
    exact ⟨htk, hD, Fr_rf M⟩
  · refine jj_iload_n F dX9_counted_0 rfl ?_
    refine jj_tableIn F (off := 56) (tgt := 57) dX9_counted_1 (by decide) (by decide) (by decide) (by decide) ?_
    refine jj_aload_n F dX9_counted_57 rfl ?_
    refine jj_geti F g95 (by assumption) (by rfl) dX9_counted_58 ?_
    refine ret _ _ _ _ dX9_counted_61 (by first | rfl | exact nar_z (by first | exact Or.inl rfl | exact Or.inr rfl | exact b2i_01 _ | assumption)) ?_
    exact ⟨hn, hD, Fr_rf M⟩
  · refine jj_iload_n F dX9_counted_0 rfl ?_
    refine jj_tableIn F (off := 61) (tgt := 62) dX9_counted_1 (by decide) (by decide) (by decide) (by decide) ?_
    refine jj_aload_n F dX9_counted_62 rfl ?_
    refine jj_callVi (na := 0) F (c_X9_actives hn h60) (gl_V mk_X9_262 vw_X9_actives) rfl rfl rfl (by decide +kernel) ⟨Nat.le_of_ble_eq_true rfl, Nat.le_of_ble_eq_true rfl⟩ kM rfl rfl rfl (Nat.le_of_ble_eq_true rfl) ⟨Nat.le_of_ble_eq_true rfl, Nat.le_of_ble_eq_true rfl⟩ dX9_counted_63 (fun r63 M63 hp63 => ?_)
    obtain ⟨rfl, rfl⟩ := symm2 hp63
    refine ret _ _ _ _ dX9_counted_66 (by first | rfl | exact nar_z (by first | exact Or.inl rfl | exact Or.inr rfl | exact b2i_01 _ | assumption)) ?_
    refine ⟨?_, hD, Fr_rf M⟩
    show _ = nI (fb_ct (a_ac a) (a_n a))
    rw [fb_ct_cong (fun j hj => by rw [hac j hj, b2i_dec])]
  · refine jj_iload_n F dX9_counted_0 rfl ?_
    refine jj_tableIn F (off := 66) (tgt := 67) dX9_counted_1 (by decide) (by decide) (by decide) (by decide) ?_
    refine jj_aload_n F dX9_counted_67 rfl ?_
    refine jj_callVi (na := 0) F c_X9_colored (gl_V mk_X9_265 vw_X9_colored) rfl rfl rfl (by decide +kernel) ⟨Nat.le_of_ble_eq_true rfl, Nat.le_of_ble_eq_true rfl⟩ kM rfl rfl rfl (Nat.le_of_ble_eq_true rfl) ⟨Nat.le_of_ble_eq_true rfl, Nat.le_of_ble_eq_true rfl⟩ dX9_counted_68 (fun r68 M68 hp68 => ?_)
    obtain ⟨rfl, rfl⟩ := symm2 hp68
    refine ret _ _ _ _ dX9_counted_71 (by first | rfl | exact nar_z (by first | exact Or.inl rfl | exact Or.inr rfl | exact b2i_01 _ | assumption)) ?_
    refine ⟨?_, hD, Fr_rf M⟩
    show _ = nI (fb_ct (fun c => !decide (tpA a c = -1)) 256)
    rw [fb_ct_cong (fun c hc => by rw [Ld_top hD hc])]
  · refine jj_iload_n F dX9_counted_0 rfl ?_
    refine jj_tableIn F (off := 71) (tgt := 72) dX9_counted_1 (by decide) (by decide) (by decide) (by decide) ?_
    refine jj_aload_n F dX9_counted_72 rfl ?_
    refine jj_callVi (na := 0) F (c_X9_colors hTO) (gl_V mk_X9_268 vw_X9_colors) rfl rfl rfl (by decide +kernel) ⟨Nat.le_of_ble_eq_true rfl, Nat.le_of_ble_eq_true rfl⟩ kM rfl rfl rfl (Nat.le_of_ble_eq_true rfl) ⟨Nat.le_of_ble_eq_true rfl, Nat.le_of_ble_eq_true rfl⟩ dX9_counted_73 (fun r73 M73 hp73 => ?_)
    obtain ⟨rfl, rfl⟩ := symm2 hp73
    refine ret _ _ _ _ dX9_counted_76 (by first | rfl | exact nar_z (by first | exact Or.inl rfl | exact Or.inr rfl | exact b2i_01 _ | assumption)) ?_
    refine ⟨?_, hD, Fr_rf M⟩
    rw [col_eq hD]
    rfl
  · refine jj_iload_n F dX9_counted_0 rfl ?_
    refine jj_tableIn F (off := 76) (tgt := 77) dX9_counted_1 (by decide) (by decide) (by decide) (by decide) ?_
    refine jj_aload_n F dX9_counted_77 rfl ?_
    refine jj_geti F g136 (by assumption) (by rfl) dX9_counted_78 ?_
    refine ret _ _ _ _ dX9_counted_81 (by first | rfl | exact nar_z (by first | exact Or.inl rfl | exact Or.inr rfl | exact b2i_01 _ | assumption)) ?_
    exact ⟨hll, hD, Fr_rf M⟩
  · refine jj_iload_n F dX9_counted_0 rfl ?_
    refine jj_tableIn F (off := 81) (tgt := 82) dX9_counted_1 (by decide) (by decide) (by decide) (by decide) ?_
    refine jj_aload_n F dX9_counted_82 rfl ?_
    refine jj_callVi (na := 0) F (c_X9_held (us := fun j => (lkD (a_lk a) j).1) (fa := fun j => (lkD (a_lk a) j).2.1) (la := fun j => (lkD (a_lk a) j).2.2.1) hll hlk.1 hmlh) (gl_V mk_X9_271 vw_X9_held) rfl rfl rfl (by decide +kernel) ⟨Nat.le_of_ble_eq_true rfl, Nat.le_of_ble_eq_true rfl⟩ kM rfl rfl rfl (Nat.le_of_ble_eq_true rfl) ⟨Nat.le_of_ble_eq_true rfl, Nat.le_of_ble_eq_true rfl⟩ dX9_counted_83 (fun r83 M83 hp83 => ?_)
    obtain ⟨rfl, rfl⟩ := symm2 hp83
    refine ret _ _ _ _ dX9_counted_86 (by first | rfl | exact nar_z (by first | exact Or.inl rfl | exact Or.inr rfl | exact b2i_01 _ | assumption)) ?_
    refine ⟨?_, hD, Fr_rf M⟩
    show _ = nI (csz (held (a_lk a)))
    unfold csz
    rw [fb_ct_cong (fun c hc => held_ho hMR.2.1)]
  · refine jj_iload_n F dX9_counted_0 rfl ?_
    refine jj_tableIn F (off := 86) (tgt := 87) dX9_counted_1 (by decide) (by decide) (by decide) (by decide) ?_
    refine jj_aload_n F dX9_counted_87 rfl ?_
    refine jj_callVi (na := 0) F c_X9_marks (gl_V mk_X9_274 vw_X9_marks) rfl rfl rfl (by decide +kernel) ⟨Nat.le_of_ble_eq_true rfl, Nat.le_of_ble_eq_true rfl⟩ kM rfl rfl rfl (Nat.le_of_ble_eq_true rfl) ⟨Nat.le_of_ble_eq_true rfl, Nat.le_of_ble_eq_true rfl⟩ dX9_counted_88 (fun r88 M88 hp88 => ?_)
    obtain ⟨rfl, rfl⟩ := symm2 hp88
    refine ret _ _ _ _ dX9_counted_91 (by first | rfl | exact nar_z (by first | exact Or.inl rfl | exact Or.inr rfl | exact b2i_01 _ | assumption)) ?_
    refine ⟨?_, hD, Fr_rf M⟩
    show _ = nI (fb_ct (fun m => (a_mk a m).1) 6)
    rw [fb_ct_cong (fun m hm => by rw [(hK m hm).1, b2i_dec])]
  · refine jj_iload_n F dX9_counted_0 rfl ?_
    refine jj_tableIn F (off := 91) (tgt := 92) dX9_counted_1 (by decide) (by decide) (by decide) (by decide) ?_
    refine jj_aload_n F dX9_counted_92 rfl ?_
    refine jj_callVi (na := 0) F (c_X9_covered hn h60 htk hL) (gl_V mk_X9_277 vw_X9_covered) rfl rfl rfl (by decide +kernel) ⟨Nat.le_of_ble_eq_true rfl, Nat.le_of_ble_eq_true rfl⟩ kM rfl rfl rfl (Nat.le_of_ble_eq_true rfl) ⟨Nat.le_of_ble_eq_true rfl, Nat.le_of_ble_eq_true rfl⟩ dX9_counted_93 (fun r93 M93 hp93 => ?_)
    obtain ⟨rfl, rfl⟩ := symm2 hp93
    refine ret _ _ _ _ dX9_counted_96 (by first | rfl | exact nar_z (by first | exact Or.inl rfl | exact Or.inr rfl | exact b2i_01 _ | assumption)) ?_
    refine ⟨?_, hD, Fr_rf M⟩
    show _ = nI (fb_ct (fun j => decide (OF (tpA a) 256 j = 0) && !decide (nI (csz (lsA a j)) ≤ 0) && !vnA (a_op a) (nI (a_t a)) j) (a_n a))
    congr 1
    refine fb_ct_cong (fun j hj => ?_)
    rw [show M.1 483 j = a_op a j 4 from hop j hj 4 (by omega), show M.1 484 j = a_op a j 5 from hop j hj 5 (by omega), csz_cong (fun c hc => hLa j hj c hc), fb_ct_cong (fun c hc => by rw [Ld_top hD hc])]
    unfold OF vnA
    rw [if_pos (show j < 60 by omega)]
    rw [Bool.and_comm, Bool.and_comm (!vanI _ _ _), Bool.and_assoc]
  · refine jj_iload_n F dX9_counted_0 rfl ?_
    refine jj_tableOut F (tgt := 97) dX9_counted_1 (by decide) (by decide) ?_
    refine jj_aload_n F dX9_counted_97 rfl ?_
    refine jj_iconst F (v := -1) dX9_counted_98 (by decide) ?_
    refine jj_callVi (na := 1) F (c_partsN hTO) (gl_V mk_X9_280 vw_X9_parts) rfl rfl rfl (by decide +kernel) ⟨Nat.le_of_ble_eq_true rfl, Nat.le_of_ble_eq_true rfl⟩ kM rfl rfl rfl (Nat.le_of_ble_eq_true rfl) ⟨Nat.le_of_ble_eq_true rfl, Nat.le_of_ble_eq_true rfl⟩ dX9_counted_99 (fun r99 M99 hp99 => ?_)
    refine ret _ _ _ _ dX9_counted_102 (by first | rfl | exact nar_z (by first | exact Or.inl rfl | exact Or.inr rfl | exact b2i_01 _ | assumption)) ?_
    obtain ⟨hr9, ρ9, B9, rfl⟩ := hp99
    refine ⟨?_, Ld_503 hD _ _, Fr_503 _ _⟩
    rw [hr9, npt_N hD]
    rfl
theorem fade_p {t : Nat} {f : Nat → Int32} (h : opOk t f) (h0 : ¬ f 4 = 0) : 0 < f 4 := by
  obtain ⟨v, hv, e⟩ := h.2.2.2.2.1
  rw [e] at h0 ⊢
  rcases Nat.eq_zero_or_pos v with q | q
  · rw [q] at h0; exact absurd rfl h0
  · exact nI_lt (a := 0) q (by omega)
set_option maxRecDepth 100000 in
set_option maxHeartbeats 1000000 in
theorem c_X9_told {l : Launch} {E : Ee} {M : Mm} {a : Ab} {W : Nat} (hD : Ld M a W) {k w : Nat} (hk : k < a_n a) (hw : w < 11) : CtI l E yX9_told (.code yX9_told cX9_told 3 (some .int) :: gl) ({ frames := 5, cells := 0, slots := 0, locals := 118 } : Room) M [.ref (E.2.2 478), .int (nI k), .int (nI w)] 0 0 (fun r M2 => r = opA a k w ∧ Ld M2 a W ∧ Fr M M2) := by
  refine ctI_of (L0 := [some (.ref (E.2.2 478)), some (.int (nI k)), some (.int (nI w))]) (by decide) rfl (Nat.le_of_ble_eq_true rfl) rfl ?_
  intro Z hl hE hnl F ret
  subst hE
  have in_X9 : ∀ w ∈ u_ws RX9 TX9 33, w ∈ (.code yX9_told cX9_told 3 (some .int) :: gl) := fun w h => List.mem_cons_of_mem _ (lay_X9 w h)
  have g7 : FG Z 7 9 3 := fg_mk F (C := RX9) (T := TX9) (N := 33) in_X9 rfl (by decide) rfl (List.mem_cons_of_mem _ fk_X9_7)
  have g13 : FG Z 13 9 4 := fg_mk F (C := RX9) (T := TX9) (N := 33) in_X9 rfl (by decide) rfl (List.mem_cons_of_mem _ fk_X9_13)
  have g16 : FG Z 16 9 5 := fg_mk F (C := RX9) (T := TX9) (N := 33) in_X9 rfl (by decide) rfl (List.mem_cons_of_mem _ fk_X9_16)
  have g19 : FG Z 19 9 6 := fg_mk F (C := RX9) (T := TX9) (N := 33) in_X9 rfl (by decide) rfl (List.mem_cons_of_mem _ fk_X9_19)
  have g25 : FG Z 25 9 8 := fg_mk F (C := RX9) (T := TX9) (N := 33) in_X9 rfl (by decide) rfl (List.mem_cons_of_mem _ fk_X9_25)
  have g28 : FG Z 28 9 9 := fg_mk F (C := RX9) (T := TX9) (N := 33) in_X9 rfl (by decide) rfl (List.mem_cons_of_mem _ fk_X9_28)
  have g35 : FG Z 35 9 12 := fg_mk F (C := RX9) (T := TX9) (N := 33) in_X9 rfl (by decide) rfl (List.mem_cons_of_mem _ fk_X9_35)
  have g66 : FG Z 66 9 24 := fg_mk F (C := RX9) (T := TX9) (N := 33) in_X9 rfl (by decide) rfl (List.mem_cons_of_mem _ fk_X9_66)
  have kM := kd_M
  have k479 := kd_479
  have k480 := kd_480
  have k481 := kd_481
  have k482 := kd_482
  have k483 := kd_483
  have k484 := kd_484
  have k485 := kd_485
  have k486 := kd_486
  have k487 := kd_487
  have k488 := kd_488
  have k489 := kd_489
  have k490 := kd_490
  have k491 := kd_491
  have k492 := kd_492
  have k493 := kd_493
  have k494 := kd_494
  have k495 := kd_495
  have k496 := kd_496
  have k497 := kd_497
  have k498 := kd_498
  have k499 := kd_499
  have k500 := kd_500
  have k501 := kd_501
  have k502 := kd_502
  have k503 := kd_503
  have hTO := Ld_tops hD
  have hMR := hD.1
  obtain ⟨⟨h60, ht, htk, hn, hop, hac, hun, hopk, ⟨u0, hu1, hu2, hu3⟩, C, hC, hCa⟩, ⟨hlk, hll, hlz⟩, hK, ⟨hln, hl40, htx⟩, -⟩ := id hMR
  obtain ⟨-, ⟨L, hL, hLa⟩, hf⟩ := id hD
  have hmlh := ml_h hMR.2.1
  rcases (show w = 0 ∨ w = 1 ∨ w = 2 ∨ w = 3 ∨ w = 4 ∨ w = 5 ∨ w = 6 ∨ w = 7 ∨ w = 8 ∨ w = 9 ∨ w = 10 by omega) with rfl | rfl | rfl | rfl | rfl | rfl | rfl | rfl | rfl | rfl | rfl
  · refine jj_iload_n F dX9_told_0 rfl ?_
    refine jj_tableIn F (off := 55) (tgt := 56) dX9_told_1 (by decide) (by decide) (by decide) (by decide) ?_
    refine jj_aload_n F dX9_told_56 rfl ?_
    refine jj_getr F g7 (by assumption) (by rfl) dX9_told_57 ?_
    refine jj_iload_n F dX9_told_60 rfl ?_
    refine jj_iald F (by assumption) rfl (by omega) dX9_told_61 ?_
    refine ret _ _ _ _ dX9_told_62 (by first | rfl | exact nar_z (by first | exact Or.inl rfl | exact Or.inr rfl | exact b2i_01 _ | assumption)) ?_
    exact ⟨hop k hk 0 (by omega), hD, Fr_rf M⟩
  · refine jj_iload_n F dX9_told_0 rfl ?_
    refine jj_tableIn F (off := 62) (tgt := 63) dX9_told_1 (by decide) (by decide) (by decide) (by decide) ?_
    refine jj_aload_n F dX9_told_63 rfl ?_
    refine jj_getr F g13 (by assumption) (by rfl) dX9_told_64 ?_
    refine jj_iload_n F dX9_told_67 rfl ?_
    refine jj_iald F (by assumption) rfl (by omega) dX9_told_68 ?_
    refine ret _ _ _ _ dX9_told_69 (by first | rfl | exact nar_z (by first | exact Or.inl rfl | exact Or.inr rfl | exact b2i_01 _ | assumption)) ?_
    exact ⟨hop k hk 1 (by omega), hD, Fr_rf M⟩
  · refine jj_iload_n F dX9_told_0 rfl ?_
    refine jj_tableIn F (off := 69) (tgt := 70) dX9_told_1 (by decide) (by decide) (by decide) (by decide) ?_
    refine jj_aload_n F dX9_told_70 rfl ?_
    refine jj_getr F g16 (by assumption) (by rfl) dX9_told_71 ?_
    refine jj_iload_n F dX9_told_74 rfl ?_
    refine jj_iald F (by assumption) rfl (by omega) dX9_told_75 ?_
    refine ret _ _ _ _ dX9_told_76 (by first | rfl | exact nar_z (by first | exact Or.inl rfl | exact Or.inr rfl | exact b2i_01 _ | assumption)) ?_
    exact ⟨hop k hk 2 (by omega), hD, Fr_rf M⟩
  · refine jj_iload_n F dX9_told_0 rfl ?_
    refine jj_tableIn F (off := 76) (tgt := 77) dX9_told_1 (by decide) (by decide) (by decide) (by decide) ?_
    refine jj_aload_n F dX9_told_77 rfl ?_
    refine jj_getr F g19 (by assumption) (by rfl) dX9_told_78 ?_
    refine jj_iload_n F dX9_told_81 rfl ?_
    refine jj_iald F (by assumption) rfl (by omega) dX9_told_82 ?_
    refine ret _ _ _ _ dX9_told_83 (by first | rfl | exact nar_z (by first | exact Or.inl rfl | exact Or.inr rfl | exact b2i_01 _ | assumption)) ?_
    exact ⟨hop k hk 3 (by omega), hD, Fr_rf M⟩
  · refine jj_iload_n F dX9_told_0 rfl ?_
    refine jj_tableIn F (off := 83) (tgt := 84) dX9_told_1 (by decide) (by decide) (by decide) (by decide) ?_
    refine jj_aload_n F dX9_told_84 rfl ?_
    refine jj_getr F g25 (by assumption) (by rfl) dX9_told_85 ?_
    refine jj_iload_n F dX9_told_88 rfl ?_
    refine jj_iald F (by assumption) rfl (by omega) dX9_told_89 ?_
    refine ret _ _ _ _ dX9_told_90 (by first | rfl | exact nar_z (by first | exact Or.inl rfl | exact Or.inr rfl | exact b2i_01 _ | assumption)) ?_
    exact ⟨hop k hk 5 (by omega), hD, Fr_rf M⟩
  · refine jj_iload_n F dX9_told_0 rfl ?_
    refine jj_tableIn F (off := 90) (tgt := 91) dX9_told_1 (by decide) (by decide) (by decide) (by decide) ?_
    refine jj_aload_n F dX9_told_91 rfl ?_
    refine jj_getr F g28 (by assumption) (by rfl) dX9_told_92 ?_
    refine jj_iload_n F dX9_told_95 rfl ?_
    refine jj_zald F (by assumption) rfl (by omega) dX9_told_96 ?_
    refine jj_if_eq F (tgt := 104) dX9_told_97 (by decide) (fun h97 => ?_) (fun h97 => ?_)
    · refine jj_iconst F (v := nI 0) dX9_told_104 (by decide) ?_
      refine ret _ _ _ _ dX9_told_105 (by first | rfl | exact nar_z (by first | exact Or.inl rfl | exact Or.inr rfl | exact b2i_01 _ | assumption)) ?_
      refine ⟨?_, hD, Fr_rf M⟩
      rw [hac k hk] at h97
      show _ = b2i (a_ac a k)
      first
      | (rw [b2i_0] at h97; rw [h97]; rfl)
      | (rw [b2i_n0] at h97; rw [h97]; rfl)
    · refine jj_iconst F (v := nI 1) dX9_told_100 (by decide) ?_
      refine jj_goto F (tgt := 105) dX9_told_101 (by decide) ?_
      refine ret _ _ _ _ dX9_told_105 (by first | rfl | exact nar_z (by first | exact Or.inl rfl | exact Or.inr rfl | exact b2i_01 _ | assumption)) ?_
      refine ⟨?_, hD, Fr_rf M⟩
      rw [hac k hk] at h97
      show _ = b2i (a_ac a k)
      first
      | (rw [b2i_0] at h97; rw [h97]; rfl)
      | (rw [b2i_n0] at h97; rw [h97]; rfl)
  · refine jj_iload_n F dX9_told_0 rfl ?_
    refine jj_tableIn F (off := 105) (tgt := 106) dX9_told_1 (by decide) (by decide) (by decide) (by decide) ?_
    refine jj_aload_n F dX9_told_106 rfl ?_
    refine jj_getr F g35 (by assumption) (by rfl) dX9_told_107 ?_
    refine jj_iload_n F dX9_told_110 rfl ?_
    refine jj_callSi (na := 2) F (c_X9_sizeIn k487 hC (by omega)) (gl_S mk_X9_173 vw_X9_sizeIn) rfl rfl rfl (by decide +kernel) ⟨Nat.le_of_ble_eq_true rfl, Nat.le_of_ble_eq_true rfl⟩ rfl rfl (Nat.le_of_ble_eq_true rfl) ⟨Nat.le_of_ble_eq_true rfl, Nat.le_of_ble_eq_true rfl⟩ dX9_told_111 (fun r111 M111 hp111 => ?_)
    obtain ⟨rfl, rfl⟩ := symm2 hp111
    refine ret _ _ _ _ dX9_told_114 (by first | rfl | exact nar_z (by first | exact Or.inl rfl | exact Or.inr rfl | exact b2i_01 _ | assumption)) ?_
    refine ⟨?_, hD, Fr_rf M⟩
    show _ = nI (csz (a_C a k))
    rw [csz_cong (fun c hc => hCa k hk c hc)]
  · refine jj_iload_n F dX9_told_0 rfl ?_
    refine jj_tableIn F (off := 114) (tgt := 115) dX9_told_1 (by decide) (by decide) (by decide) (by decide) ?_
    refine jj_aload_n F dX9_told_115 rfl ?_
    refine jj_getr F g66 (by assumption) (by rfl) dX9_told_116 ?_
    refine jj_iload_n F dX9_told_119 rfl ?_
    refine jj_callSi (na := 2) F (c_X9_sizeIn k497 hL (by omega)) (gl_S mk_X9_173 vw_X9_sizeIn) rfl rfl rfl (by decide +kernel) ⟨Nat.le_of_ble_eq_true rfl, Nat.le_of_ble_eq_true rfl⟩ rfl rfl (Nat.le_of_ble_eq_true rfl) ⟨Nat.le_of_ble_eq_true rfl, Nat.le_of_ble_eq_true rfl⟩ dX9_told_120 (fun r120 M120 hp120 => ?_)
    obtain ⟨rfl, rfl⟩ := symm2 hp120
    refine ret _ _ _ _ dX9_told_123 (by first | rfl | exact nar_z (by first | exact Or.inl rfl | exact Or.inr rfl | exact b2i_01 _ | assumption)) ?_
    refine ⟨?_, hD, Fr_rf M⟩
    show _ = nI (csz (lsA a k))
    rw [csz_cong (fun c hc => hLa k hk c hc)]
  · refine jj_iload_n F dX9_told_0 rfl ?_
    refine jj_tableIn F (off := 123) (tgt := 124) dX9_told_1 (by decide) (by decide) (by decide) (by decide) ?_
    refine jj_aload_n F dX9_told_124 rfl ?_
    refine jj_iload_n F dX9_told_125 rfl ?_
    refine jj_callVi (na := 1) F (c_partsK (k := k) hL (by omega)) (gl_V mk_X9_280 vw_X9_parts) rfl rfl rfl (by decide +kernel) ⟨Nat.le_of_ble_eq_true rfl, Nat.le_of_ble_eq_true rfl⟩ kM rfl rfl rfl (Nat.le_of_ble_eq_true rfl) ⟨Nat.le_of_ble_eq_true rfl, Nat.le_of_ble_eq_true rfl⟩ dX9_told_126 (fun r126 M126 hp126 => ?_)
    refine ret _ _ _ _ dX9_told_129 (by first | rfl | exact nar_z (by first | exact Or.inl rfl | exact Or.inr rfl | exact b2i_01 _ | assumption)) ?_
    obtain ⟨hr9, ρ9, B9, rfl⟩ := hp126
    refine ⟨?_, Ld_503 hD _ _, Fr_503 _ _⟩
    rw [hr9, npt_K (fun y hy => hLa k hk y hy)]
    rfl
  · refine jj_iload_n F dX9_told_0 rfl ?_
    refine jj_tableIn F (off := 129) (tgt := 130) dX9_told_1 (by decide) (by decide) (by decide) (by decide) ?_
    refine jj_aload_n F dX9_told_130 rfl ?_
    refine jj_iload_n F dX9_told_131 rfl ?_
    refine jj_callVi (na := 1) F c_X9_onTop (gl_V mk_X9_256 vw_X9_onTop) rfl rfl rfl (by decide +kernel) ⟨Nat.le_of_ble_eq_true rfl, Nat.le_of_ble_eq_true rfl⟩ (by assumption) rfl rfl rfl (Nat.le_of_ble_eq_true rfl) ⟨Nat.le_of_ble_eq_true rfl, Nat.le_of_ble_eq_true rfl⟩ dX9_told_132 (fun r132 M132 hp132 => ?_)
    obtain ⟨rfl, rfl⟩ := symm2 hp132
    refine ret _ _ _ _ dX9_told_135 (by first | rfl | exact nar_z (by first | exact Or.inl rfl | exact Or.inr rfl | exact b2i_01 _ | assumption)) ?_
    refine ⟨?_, hD, Fr_rf M⟩
    show _ = OF (tpA a) 256 k
    unfold OF
    rw [if_pos (show k < 60 by omega), fb_ct_cong (fun c hc => by rw [Ld_top hD hc])]
  · refine jj_iload_n F dX9_told_0 rfl ?_
    refine jj_tableOut F (tgt := 136) dX9_told_1 (by decide) (by decide) ?_
    refine jj_aload_n F dX9_told_136 rfl ?_
    refine jj_iload_n F dX9_told_137 rfl ?_
    refine jj_callVi (na := 1) F (c_X9_strength (k := k) (by omega) (by rw [show M.1 483 k = a_op a k 4 from hop k hk 4 (by omega)]; exact fade_p (hopk k hk))) (gl_V mk_X9_286 vw_X9_strength) rfl rfl rfl (by decide +kernel) ⟨Nat.le_of_ble_eq_true rfl, Nat.le_of_ble_eq_true rfl⟩ kM rfl rfl rfl (Nat.le_of_ble_eq_true rfl) ⟨Nat.le_of_ble_eq_true rfl, Nat.le_of_ble_eq_true rfl⟩ dX9_told_138 (fun r138 M138 hp138 => ?_)
    obtain ⟨rfl, rfl⟩ := symm2 hp138
    refine ret _ _ _ _ dX9_told_141 (by first | rfl | exact nar_z (by first | exact Or.inl rfl | exact Or.inr rfl | exact b2i_01 _ | assumption)) ?_
    refine ⟨?_, hD, Fr_rf M⟩
    rw [show M.1 479 k = a_op a k 0 from hop k hk 0 (by omega), show M.1 483 k = a_op a k 4 from hop k hk 4 (by omega), show M.1 484 k = a_op a k 5 from hop k hk 5 (by omega), htk]
    rfl
theorem i32_add0 (x : Int32) : x + nI 0 = x := Int32.add_zero x
set_option maxRecDepth 100000 in
set_option maxHeartbeats 1000000 in
theorem c_X9_userNow {l : Launch} {E : Ee} {M : Mm} {a : Ab} {W : Nat} (hD : Ld M a W) {u w : Nat} (hu : u < 5) (hw : w < 5) (hWW : W < 1000) : CtI l E yX9_userNow (.code yX9_userNow cX9_userNow 6 (some .int) :: gl) ({ frames := 1, cells := 0, slots := 0, locals := 23 } : Room) M [.ref (E.2.2 478), .int (nI u), .int (nI w)] 0 0 (fun r M2 => r = usA a u w ∧ Ld M2 a W ∧ Fr M M2) := by
  refine ctI_of (L0 := [some (.ref (E.2.2 478)), some (.int (nI u)), some (.int (nI w)), none, none, none]) (by decide) rfl (Nat.le_of_ble_eq_true rfl) rfl ?_
  intro Z hl hE hnl F ret
  subst hE
  have in_X9 : ∀ w ∈ u_ws RX9 TX9 33, w ∈ (.code yX9_userNow cX9_userNow 6 (some .int) :: gl) := fun w h => List.mem_cons_of_mem _ (lay_X9 w h)
  have g13 : FG Z 13 9 4 := fg_mk F (C := RX9) (T := TX9) (N := 33) in_X9 rfl (by decide) rfl (List.mem_cons_of_mem _ fk_X9_13)
  have g28 : FG Z 28 9 9 := fg_mk F (C := RX9) (T := TX9) (N := 33) in_X9 rfl (by decide) rfl (List.mem_cons_of_mem _ fk_X9_28)
  have g32 : FG Z 32 9 10 := fg_mk F (C := RX9) (T := TX9) (N := 33) in_X9 rfl (by decide) rfl (List.mem_cons_of_mem _ fk_X9_32)
  have g95 : FG Z 95 9 2 := fg_mk F (C := RX9) (T := TX9) (N := 33) in_X9 rfl (by decide) rfl (List.mem_cons_of_mem _ fk_X9_95)
  have kM := kd_M
  have k479 := kd_479
  have k480 := kd_480
  have k481 := kd_481
  have k482 := kd_482
  have k483 := kd_483
  have k484 := kd_484
  have k485 := kd_485
  have k486 := kd_486
  have k487 := kd_487
  have k488 := kd_488
  have k489 := kd_489
  have k490 := kd_490
  have k491 := kd_491
  have k492 := kd_492
  have k493 := kd_493
  have k494 := kd_494
  have k495 := kd_495
  have k496 := kd_496
  have k497 := kd_497
  have k498 := kd_498
  have k499 := kd_499
  have k500 := kd_500
  have k501 := kd_501
  have k502 := kd_502
  have k503 := kd_503
  have hTO := Ld_tops hD
  have hMR := hD.1
  obtain ⟨⟨h60, ht, htk, hn, hop, hac, hun, hopk, ⟨u0, hu1, hu2, hu3⟩, C, hC, hCa⟩, ⟨hlk, hll, hlz⟩, hK, ⟨hln, hl40, htx⟩, -⟩ := id hMR
  obtain ⟨-, ⟨L, hL, hLa⟩, hf⟩ := id hD
  have hmlh := ml_h hMR.2.1
  rcases (show w = 0 ∨ w = 1 ∨ w = 2 ∨ w = 3 ∨ w = 4 by omega) with rfl | rfl | rfl | rfl | rfl
  · have lo : ∀ i, i ≤ a_n a → JJ Z (0, 0) M 16 [some (.ref ((zE Z).2.2 478)), some (.int (nI u)), some (.int (nI 0)), some (.int (nI (fb_ct (fun j => decide (a_op a j 1 = nI u)) i))), some (.int (nI i)), none] [] := by
      refine jj_loop (a_n a) ?_ ?_
      · refine jj_iload F dX9_userNow_16 rfl ?_
        refine jj_aload_n F dX9_userNow_18 rfl ?_
        refine jj_geti F g95 (by assumption) (by rfl) dX9_userNow_19 ?_
        rw [hn]
        refine jj_icmp_ge F (tgt := 115) dX9_userNow_22 (by decide) (fun _ => ?_) (fun h9 => absurd (nI_le (by omega) (by omega)) h9)
        refine jj_iload_n F dX9_userNow_115 rfl ?_
        refine ret _ _ _ _ dX9_userNow_116 (by first | rfl | exact nar_z (by first | exact Or.inl rfl | exact Or.inr rfl | exact b2i_01 _ | assumption)) ?_
        exact ⟨rfl, hD, Fr_rf M⟩
      · intro i hi ih
        have e1 : M.1 480 i = a_op a i 1 := hop i hi 1 (by omega)
        have e2 := hac i hi
        have e3 := hun i hi
        have hui := hu3 i hi
        by_cases hu9 : a_op a i 1 = nI u
        · refine jj_iload F dX9_userNow_16 rfl ?_
          refine jj_aload_n F dX9_userNow_18 rfl ?_
          refine jj_geti F g95 (by assumption) (by rfl) dX9_userNow_19 ?_
          rw [hn]
          refine jj_icmp_ge F (tgt := 115) dX9_userNow_22 (by decide) (fun h9 => absurd h9 (nI_ge (by omega) (by omega))) (fun _ => ?_)
          refine jj_aload_n F dX9_userNow_25 rfl ?_
          refine jj_getr F g13 (by assumption) (by rfl) dX9_userNow_26 ?_
          refine jj_iload F dX9_userNow_29 rfl ?_
          refine jj_iald F (by assumption) rfl (by omega) dX9_userNow_31 ?_
          rw [e1]
          refine jj_iload_n F dX9_userNow_32 rfl ?_
          refine jj_icmp_ne F (tgt := 40) dX9_userNow_33 (by decide) (fun h9 => absurd h9 (fun h9 => h9 hu9)) (fun _ => ?_)
          refine jj_iconst F (v := nI 1) dX9_userNow_36 (by decide) ?_
          refine jj_goto F (tgt := 41) dX9_userNow_37 (by decide) ?_
          refine jj_istore F dX9_userNow_41 (by rw [hnl]; decide) ?_
          dsimp only [lq_st, lq_clr, lq_no]
          refine jj_iload_n F dX9_userNow_43 rfl ?_
          refine jj_iload F dX9_userNow_44 rfl ?_
          refine jj_if_eq F (tgt := 87) dX9_userNow_46 (by decide) (fun h9 => absurd h9 (by decide)) (fun _ => ?_)
          refine jj_iload_n F dX9_userNow_49 rfl ?_
          refine jj_if_eq F (tgt := 83) dX9_userNow_50 (by decide) (fun _ => ?_) (fun h9 => absurd (rfl) h9)
          refine jj_iconst F (v := nI 1) dX9_userNow_83 (by decide) ?_
          refine jj_goto F (tgt := 107) dX9_userNow_84 (by decide) ?_
          refine jj_iadd F dX9_userNow_107 ?_
          refine jj_istore_n F dX9_userNow_108 (by rw [hnl]; decide) ?_
          dsimp only [lq_st, lq_clr, lq_no]
          refine jj_iinc F dX9_userNow_109 rfl (by first | exact iinc1 _ | rfl) (by rw [hnl]; decide) ?_
          dsimp only [lq_st, lq_clr, lq_no]
          refine jj_goto F (tgt := 16) dX9_userNow_112 (by decide) ?_
          refine jj_less (L2 := [some (.ref ((zE Z).2.2 478)), some (.int (nI u)), some (.int (nI 0)), some (.int (nI (fb_ct (fun j => decide (a_op a j 1 = nI u)) (i + 1)))), some (.int (nI (i + 1))), none]) ?_ ih
          rw [fb_ct_succ]
          simp only [hu9, decide_true, if_true, nI_add]
          exact less5 _ _ _ _ _ _
        · refine jj_iload F dX9_userNow_16 rfl ?_
          refine jj_aload_n F dX9_userNow_18 rfl ?_
          refine jj_geti F g95 (by assumption) (by rfl) dX9_userNow_19 ?_
          rw [hn]
          refine jj_icmp_ge F (tgt := 115) dX9_userNow_22 (by decide) (fun h9 => absurd h9 (nI_ge (by omega) (by omega))) (fun _ => ?_)
          refine jj_aload_n F dX9_userNow_25 rfl ?_
          refine jj_getr F g13 (by assumption) (by rfl) dX9_userNow_26 ?_
          refine jj_iload F dX9_userNow_29 rfl ?_
          refine jj_iald F (by assumption) rfl (by omega) dX9_userNow_31 ?_
          rw [e1]
          refine jj_iload_n F dX9_userNow_32 rfl ?_
          refine jj_icmp_ne F (tgt := 40) dX9_userNow_33 (by decide) (fun _ => ?_) (fun h9 => absurd h9 (hu9))
          refine jj_iconst F (v := nI 0) dX9_userNow_40 (by decide) ?_
          refine jj_istore F dX9_userNow_41 (by rw [hnl]; decide) ?_
          dsimp only [lq_st, lq_clr, lq_no]
          refine jj_iload_n F dX9_userNow_43 rfl ?_
          refine jj_iload F dX9_userNow_44 rfl ?_
          refine jj_if_eq F (tgt := 87) dX9_userNow_46 (by decide) (fun _ => ?_) (fun h9 => absurd (rfl) h9)
          refine jj_iload F dX9_userNow_87 rfl ?_
          refine jj_if_eq F (tgt := 106) dX9_userNow_89 (by decide) (fun _ => ?_) (fun h9 => absurd (rfl) h9)
          refine jj_iconst F (v := nI 0) dX9_userNow_106 (by decide) ?_
          refine jj_iadd F dX9_userNow_107 ?_
          refine jj_istore_n F dX9_userNow_108 (by rw [hnl]; decide) ?_
          dsimp only [lq_st, lq_clr, lq_no]
          refine jj_iinc F dX9_userNow_109 rfl (by first | exact iinc1 _ | rfl) (by rw [hnl]; decide) ?_
          dsimp only [lq_st, lq_clr, lq_no]
          refine jj_goto F (tgt := 16) dX9_userNow_112 (by decide) ?_
          refine jj_less (L2 := [some (.ref ((zE Z).2.2 478)), some (.int (nI u)), some (.int (nI 0)), some (.int (nI (fb_ct (fun j => decide (a_op a j 1 = nI u)) (i + 1)))), some (.int (nI (i + 1))), none]) ?_ ih
          rw [fb_ct_succ]
          simp only [hu9, decide_false, Bool.false_and, Bool.false_eq_true, if_false, nI_add, Nat.add_zero]
          exact less5 _ _ _ _ _ _
    refine jj_iload_n F dX9_userNow_0 rfl ?_
    refine jj_iconst F (v := nI 4) dX9_userNow_1 (by decide) ?_
    refine jj_icmp_ne F (tgt := 11) dX9_userNow_2 (by decide) (fun _ => ?_) (fun h9 => absurd h9 (by decide))
    refine jj_iconst F (v := nI 0) dX9_userNow_11 (by decide) ?_
    refine jj_istore_n F dX9_userNow_12 (by rw [hnl]; decide) ?_
    dsimp only [lq_st, lq_clr, lq_no]
    refine jj_iconst F (v := nI 0) dX9_userNow_13 (by decide) ?_
    refine jj_istore F dX9_userNow_14 (by rw [hnl]; decide) ?_
    dsimp only [lq_st, lq_clr, lq_no]
    exact lo 0 (by omega)
  · have lo : ∀ i, i ≤ a_n a → JJ Z (0, 0) M 16 [some (.ref ((zE Z).2.2 478)), some (.int (nI u)), some (.int (nI 1)), some (.int (nI (fb_ct (fun j => decide (a_op a j 1 = nI u) && a_ac a j) i))), some (.int (nI i)), none] [] := by
      refine jj_loop (a_n a) ?_ ?_
      · refine jj_iload F dX9_userNow_16 rfl ?_
        refine jj_aload_n F dX9_userNow_18 rfl ?_
        refine jj_geti F g95 (by assumption) (by rfl) dX9_userNow_19 ?_
        rw [hn]
        refine jj_icmp_ge F (tgt := 115) dX9_userNow_22 (by decide) (fun _ => ?_) (fun h9 => absurd (nI_le (by omega) (by omega)) h9)
        refine jj_iload_n F dX9_userNow_115 rfl ?_
        refine ret _ _ _ _ dX9_userNow_116 (by first | rfl | exact nar_z (by first | exact Or.inl rfl | exact Or.inr rfl | exact b2i_01 _ | assumption)) ?_
        exact ⟨rfl, hD, Fr_rf M⟩
      · intro i hi ih
        have e1 : M.1 480 i = a_op a i 1 := hop i hi 1 (by omega)
        have e2 := hac i hi
        have e3 := hun i hi
        have hui := hu3 i hi
        by_cases hu9 : a_op a i 1 = nI u
        · refine jj_iload F dX9_userNow_16 rfl ?_
          refine jj_aload_n F dX9_userNow_18 rfl ?_
          refine jj_geti F g95 (by assumption) (by rfl) dX9_userNow_19 ?_
          rw [hn]
          refine jj_icmp_ge F (tgt := 115) dX9_userNow_22 (by decide) (fun h9 => absurd h9 (nI_ge (by omega) (by omega))) (fun _ => ?_)
          refine jj_aload_n F dX9_userNow_25 rfl ?_
          refine jj_getr F g13 (by assumption) (by rfl) dX9_userNow_26 ?_
          refine jj_iload F dX9_userNow_29 rfl ?_
          refine jj_iald F (by assumption) rfl (by omega) dX9_userNow_31 ?_
          rw [e1]
          refine jj_iload_n F dX9_userNow_32 rfl ?_
          refine jj_icmp_ne F (tgt := 40) dX9_userNow_33 (by decide) (fun h9 => absurd h9 (fun h9 => h9 hu9)) (fun _ => ?_)
          refine jj_iconst F (v := nI 1) dX9_userNow_36 (by decide) ?_
          refine jj_goto F (tgt := 41) dX9_userNow_37 (by decide) ?_
          refine jj_istore F dX9_userNow_41 (by rw [hnl]; decide) ?_
          dsimp only [lq_st, lq_clr, lq_no]
          refine jj_iload_n F dX9_userNow_43 rfl ?_
          refine jj_iload F dX9_userNow_44 rfl ?_
          refine jj_if_eq F (tgt := 87) dX9_userNow_46 (by decide) (fun h9 => absurd h9 (by decide)) (fun _ => ?_)
          refine jj_iload_n F dX9_userNow_49 rfl ?_
          refine jj_if_eq F (tgt := 83) dX9_userNow_50 (by decide) (fun h9 => absurd h9 (by decide)) (fun _ => ?_)
          refine jj_iload_n F dX9_userNow_53 rfl ?_
          refine jj_iconst F (v := nI 1) dX9_userNow_54 (by decide) ?_
          refine jj_icmp_ne F (tgt := 68) dX9_userNow_55 (by decide) (fun h9 => absurd h9 (fun h9 => h9 rfl)) (fun _ => ?_)
          refine jj_aload_n F dX9_userNow_58 rfl ?_
          refine jj_getr F g28 (by assumption) (by rfl) dX9_userNow_59 ?_
          refine jj_iload F dX9_userNow_62 rfl ?_
          refine jj_zald F (by assumption) rfl (by omega) dX9_userNow_64 ?_
          rw [e2]
          refine jj_if_ne F (tgt := 83) dX9_userNow_65 (by decide) (fun h65 => ?_) (fun h65 => ?_)
          · refine jj_iconst F (v := nI 1) dX9_userNow_83 (by decide) ?_
            refine jj_goto F (tgt := 107) dX9_userNow_84 (by decide) ?_
            refine jj_iadd F dX9_userNow_107 ?_
            refine jj_istore_n F dX9_userNow_108 (by rw [hnl]; decide) ?_
            dsimp only [lq_st, lq_clr, lq_no]
            refine jj_iinc F dX9_userNow_109 rfl (by first | exact iinc1 _ | rfl) (by rw [hnl]; decide) ?_
            dsimp only [lq_st, lq_clr, lq_no]
            refine jj_goto F (tgt := 16) dX9_userNow_112 (by decide) ?_
            refine jj_less (L2 := [some (.ref ((zE Z).2.2 478)), some (.int (nI u)), some (.int (nI 1)), some (.int (nI (fb_ct (fun j => decide (a_op a j 1 = nI u) && a_ac a j) (i + 1)))), some (.int (nI (i + 1))), none]) ?_ ih
            rw [fb_ct_succ]
            first
            | (have y := van_t h65; simp only [hu9, y, decide_true, Bool.true_and, if_true, nI_add]; exact less5 _ _ _ _ _ _)
            | (have y := van_f h65; simp only [hu9, y, decide_true, Bool.true_and, Bool.false_eq_true, if_false, nI_add]; exact less5 _ _ _ _ _ _)
          · refine jj_iload_n F dX9_userNow_68 rfl ?_
            refine jj_iconst F (v := nI 2) dX9_userNow_69 (by decide) ?_
            refine jj_icmp_ne F (tgt := 87) dX9_userNow_70 (by decide) (fun _ => ?_) (fun h9 => absurd h9 (by decide))
            refine jj_iload F dX9_userNow_87 rfl ?_
            refine jj_if_eq F (tgt := 106) dX9_userNow_89 (by decide) (fun h9 => absurd h9 (by decide)) (fun _ => ?_)
            refine jj_iload_n F dX9_userNow_92 rfl ?_
            refine jj_iconst F (v := nI 3) dX9_userNow_93 (by decide) ?_
            refine jj_icmp_ne F (tgt := 106) dX9_userNow_94 (by decide) (fun _ => ?_) (fun h9 => absurd h9 (by decide))
            refine jj_iconst F (v := nI 0) dX9_userNow_106 (by decide) ?_
            refine jj_iadd F dX9_userNow_107 ?_
            refine jj_istore_n F dX9_userNow_108 (by rw [hnl]; decide) ?_
            dsimp only [lq_st, lq_clr, lq_no]
            refine jj_iinc F dX9_userNow_109 rfl (by first | exact iinc1 _ | rfl) (by rw [hnl]; decide) ?_
            dsimp only [lq_st, lq_clr, lq_no]
            refine jj_goto F (tgt := 16) dX9_userNow_112 (by decide) ?_
            refine jj_less (L2 := [some (.ref ((zE Z).2.2 478)), some (.int (nI u)), some (.int (nI 1)), some (.int (nI (fb_ct (fun j => decide (a_op a j 1 = nI u) && a_ac a j) (i + 1)))), some (.int (nI (i + 1))), none]) ?_ ih
            rw [fb_ct_succ]
            first
            | (have y := van_t h65; simp only [hu9, y, decide_true, Bool.true_and, if_true, nI_add]; exact less5 _ _ _ _ _ _)
            | (have y := van_f h65; simp only [hu9, y, decide_true, Bool.true_and, Bool.false_eq_true, if_false, nI_add]; exact less5 _ _ _ _ _ _)
        · refine jj_iload F dX9_userNow_16 rfl ?_
          refine jj_aload_n F dX9_userNow_18 rfl ?_
          refine jj_geti F g95 (by assumption) (by rfl) dX9_userNow_19 ?_
          rw [hn]
          refine jj_icmp_ge F (tgt := 115) dX9_userNow_22 (by decide) (fun h9 => absurd h9 (nI_ge (by omega) (by omega))) (fun _ => ?_)
          refine jj_aload_n F dX9_userNow_25 rfl ?_
          refine jj_getr F g13 (by assumption) (by rfl) dX9_userNow_26 ?_
          refine jj_iload F dX9_userNow_29 rfl ?_
          refine jj_iald F (by assumption) rfl (by omega) dX9_userNow_31 ?_
          rw [e1]
          refine jj_iload_n F dX9_userNow_32 rfl ?_
          refine jj_icmp_ne F (tgt := 40) dX9_userNow_33 (by decide) (fun _ => ?_) (fun h9 => absurd h9 (hu9))
          refine jj_iconst F (v := nI 0) dX9_userNow_40 (by decide) ?_
          refine jj_istore F dX9_userNow_41 (by rw [hnl]; decide) ?_
          dsimp only [lq_st, lq_clr, lq_no]
          refine jj_iload_n F dX9_userNow_43 rfl ?_
          refine jj_iload F dX9_userNow_44 rfl ?_
          refine jj_if_eq F (tgt := 87) dX9_userNow_46 (by decide) (fun _ => ?_) (fun h9 => absurd (rfl) h9)
          refine jj_iload F dX9_userNow_87 rfl ?_
          refine jj_if_eq F (tgt := 106) dX9_userNow_89 (by decide) (fun _ => ?_) (fun h9 => absurd (rfl) h9)
          refine jj_iconst F (v := nI 0) dX9_userNow_106 (by decide) ?_
          refine jj_iadd F dX9_userNow_107 ?_
          refine jj_istore_n F dX9_userNow_108 (by rw [hnl]; decide) ?_
          dsimp only [lq_st, lq_clr, lq_no]
          refine jj_iinc F dX9_userNow_109 rfl (by first | exact iinc1 _ | rfl) (by rw [hnl]; decide) ?_
          dsimp only [lq_st, lq_clr, lq_no]
          refine jj_goto F (tgt := 16) dX9_userNow_112 (by decide) ?_
          refine jj_less (L2 := [some (.ref ((zE Z).2.2 478)), some (.int (nI u)), some (.int (nI 1)), some (.int (nI (fb_ct (fun j => decide (a_op a j 1 = nI u) && a_ac a j) (i + 1)))), some (.int (nI (i + 1))), none]) ?_ ih
          rw [fb_ct_succ]
          simp only [hu9, decide_false, Bool.false_and, Bool.false_eq_true, if_false, nI_add, Nat.add_zero]
          exact less5 _ _ _ _ _ _
    refine jj_iload_n F dX9_userNow_0 rfl ?_
    refine jj_iconst F (v := nI 4) dX9_userNow_1 (by decide) ?_
    refine jj_icmp_ne F (tgt := 11) dX9_userNow_2 (by decide) (fun _ => ?_) (fun h9 => absurd h9 (by decide))
    refine jj_iconst F (v := nI 0) dX9_userNow_11 (by decide) ?_
    refine jj_istore_n F dX9_userNow_12 (by rw [hnl]; decide) ?_
    dsimp only [lq_st, lq_clr, lq_no]
    refine jj_iconst F (v := nI 0) dX9_userNow_13 (by decide) ?_
    refine jj_istore F dX9_userNow_14 (by rw [hnl]; decide) ?_
    dsimp only [lq_st, lq_clr, lq_no]
    exact lo 0 (by omega)
  · have lo : ∀ i, i ≤ a_n a → JJ Z (0, 0) M 16 [some (.ref ((zE Z).2.2 478)), some (.int (nI u)), some (.int (nI 2)), some (.int (nI (fb_ct (fun j => decide (a_op a j 1 = nI u) && decide (0 < a_un a j)) i))), some (.int (nI i)), none] [] := by
      refine jj_loop (a_n a) ?_ ?_
      · refine jj_iload F dX9_userNow_16 rfl ?_
        refine jj_aload_n F dX9_userNow_18 rfl ?_
        refine jj_geti F g95 (by assumption) (by rfl) dX9_userNow_19 ?_
        rw [hn]
        refine jj_icmp_ge F (tgt := 115) dX9_userNow_22 (by decide) (fun _ => ?_) (fun h9 => absurd (nI_le (by omega) (by omega)) h9)
        refine jj_iload_n F dX9_userNow_115 rfl ?_
        refine ret _ _ _ _ dX9_userNow_116 (by first | rfl | exact nar_z (by first | exact Or.inl rfl | exact Or.inr rfl | exact b2i_01 _ | assumption)) ?_
        exact ⟨rfl, hD, Fr_rf M⟩
      · intro i hi ih
        have e1 : M.1 480 i = a_op a i 1 := hop i hi 1 (by omega)
        have e2 := hac i hi
        have e3 := hun i hi
        have hui := hu3 i hi
        by_cases hu9 : a_op a i 1 = nI u
        · refine jj_iload F dX9_userNow_16 rfl ?_
          refine jj_aload_n F dX9_userNow_18 rfl ?_
          refine jj_geti F g95 (by assumption) (by rfl) dX9_userNow_19 ?_
          rw [hn]
          refine jj_icmp_ge F (tgt := 115) dX9_userNow_22 (by decide) (fun h9 => absurd h9 (nI_ge (by omega) (by omega))) (fun _ => ?_)
          refine jj_aload_n F dX9_userNow_25 rfl ?_
          refine jj_getr F g13 (by assumption) (by rfl) dX9_userNow_26 ?_
          refine jj_iload F dX9_userNow_29 rfl ?_
          refine jj_iald F (by assumption) rfl (by omega) dX9_userNow_31 ?_
          rw [e1]
          refine jj_iload_n F dX9_userNow_32 rfl ?_
          refine jj_icmp_ne F (tgt := 40) dX9_userNow_33 (by decide) (fun h9 => absurd h9 (fun h9 => h9 hu9)) (fun _ => ?_)
          refine jj_iconst F (v := nI 1) dX9_userNow_36 (by decide) ?_
          refine jj_goto F (tgt := 41) dX9_userNow_37 (by decide) ?_
          refine jj_istore F dX9_userNow_41 (by rw [hnl]; decide) ?_
          dsimp only [lq_st, lq_clr, lq_no]
          refine jj_iload_n F dX9_userNow_43 rfl ?_
          refine jj_iload F dX9_userNow_44 rfl ?_
          refine jj_if_eq F (tgt := 87) dX9_userNow_46 (by decide) (fun h9 => absurd h9 (by decide)) (fun _ => ?_)
          refine jj_iload_n F dX9_userNow_49 rfl ?_
          refine jj_if_eq F (tgt := 83) dX9_userNow_50 (by decide) (fun h9 => absurd h9 (by decide)) (fun _ => ?_)
          refine jj_iload_n F dX9_userNow_53 rfl ?_
          refine jj_iconst F (v := nI 1) dX9_userNow_54 (by decide) ?_
          refine jj_icmp_ne F (tgt := 68) dX9_userNow_55 (by decide) (fun _ => ?_) (fun h9 => absurd h9 (by decide))
          refine jj_iload_n F dX9_userNow_68 rfl ?_
          refine jj_iconst F (v := nI 2) dX9_userNow_69 (by decide) ?_
          refine jj_icmp_ne F (tgt := 87) dX9_userNow_70 (by decide) (fun h9 => absurd h9 (fun h9 => h9 rfl)) (fun _ => ?_)
          refine jj_aload_n F dX9_userNow_73 rfl ?_
          refine jj_getr F g32 (by assumption) (by rfl) dX9_userNow_74 ?_
          refine jj_iload F dX9_userNow_77 rfl ?_
          refine jj_iald F (by assumption) rfl (by omega) dX9_userNow_79 ?_
          rw [e3]
          refine jj_if_le F (tgt := 87) dX9_userNow_80 (by decide) (fun h80 => ?_) (fun h80 => ?_)
          · refine jj_iload F dX9_userNow_87 rfl ?_
            refine jj_if_eq F (tgt := 106) dX9_userNow_89 (by decide) (fun h9 => absurd h9 (by decide)) (fun _ => ?_)
            refine jj_iload_n F dX9_userNow_92 rfl ?_
            refine jj_iconst F (v := nI 3) dX9_userNow_93 (by decide) ?_
            refine jj_icmp_ne F (tgt := 106) dX9_userNow_94 (by decide) (fun _ => ?_) (fun h9 => absurd h9 (by decide))
            refine jj_iconst F (v := nI 0) dX9_userNow_106 (by decide) ?_
            refine jj_iadd F dX9_userNow_107 ?_
            refine jj_istore_n F dX9_userNow_108 (by rw [hnl]; decide) ?_
            dsimp only [lq_st, lq_clr, lq_no]
            refine jj_iinc F dX9_userNow_109 rfl (by first | exact iinc1 _ | rfl) (by rw [hnl]; decide) ?_
            dsimp only [lq_st, lq_clr, lq_no]
            refine jj_goto F (tgt := 16) dX9_userNow_112 (by decide) ?_
            refine jj_less (L2 := [some (.ref ((zE Z).2.2 478)), some (.int (nI u)), some (.int (nI 2)), some (.int (nI (fb_ct (fun j => decide (a_op a j 1 = nI u) && decide (0 < a_un a j)) (i + 1)))), some (.int (nI (i + 1))), none]) ?_ ih
            rw [fb_ct_succ]
            first
            | (have y : nI (a_un a i) ≤ 0 := h80; have y2 : ¬ 0 < a_un a i := fun q => nI_ge (a := 0) q (by omega) y; simp only [hu9, y2, decide_true, decide_false, Bool.true_and, Bool.false_eq_true, if_false, nI_add]; exact less5 _ _ _ _ _ _)
            | (have y : ¬ nI (a_un a i) ≤ 0 := h80; have y2 : 0 < a_un a i := Nat.pos_of_ne_zero (fun q => y (by rw [q]; decide)); simp only [hu9, y2, decide_true, Bool.true_and, if_true, nI_add]; exact less5 _ _ _ _ _ _)
          · refine jj_iconst F (v := nI 1) dX9_userNow_83 (by decide) ?_
            refine jj_goto F (tgt := 107) dX9_userNow_84 (by decide) ?_
            refine jj_iadd F dX9_userNow_107 ?_
            refine jj_istore_n F dX9_userNow_108 (by rw [hnl]; decide) ?_
            dsimp only [lq_st, lq_clr, lq_no]
            refine jj_iinc F dX9_userNow_109 rfl (by first | exact iinc1 _ | rfl) (by rw [hnl]; decide) ?_
            dsimp only [lq_st, lq_clr, lq_no]
            refine jj_goto F (tgt := 16) dX9_userNow_112 (by decide) ?_
            refine jj_less (L2 := [some (.ref ((zE Z).2.2 478)), some (.int (nI u)), some (.int (nI 2)), some (.int (nI (fb_ct (fun j => decide (a_op a j 1 = nI u) && decide (0 < a_un a j)) (i + 1)))), some (.int (nI (i + 1))), none]) ?_ ih
            rw [fb_ct_succ]
            first
            | (have y : nI (a_un a i) ≤ 0 := h80; have y2 : ¬ 0 < a_un a i := fun q => nI_ge (a := 0) q (by omega) y; simp only [hu9, y2, decide_true, decide_false, Bool.true_and, Bool.false_eq_true, if_false, nI_add]; exact less5 _ _ _ _ _ _)
            | (have y : ¬ nI (a_un a i) ≤ 0 := h80; have y2 : 0 < a_un a i := Nat.pos_of_ne_zero (fun q => y (by rw [q]; decide)); simp only [hu9, y2, decide_true, Bool.true_and, if_true, nI_add]; exact less5 _ _ _ _ _ _)
        · refine jj_iload F dX9_userNow_16 rfl ?_
          refine jj_aload_n F dX9_userNow_18 rfl ?_
          refine jj_geti F g95 (by assumption) (by rfl) dX9_userNow_19 ?_
          rw [hn]
          refine jj_icmp_ge F (tgt := 115) dX9_userNow_22 (by decide) (fun h9 => absurd h9 (nI_ge (by omega) (by omega))) (fun _ => ?_)
          refine jj_aload_n F dX9_userNow_25 rfl ?_
          refine jj_getr F g13 (by assumption) (by rfl) dX9_userNow_26 ?_
          refine jj_iload F dX9_userNow_29 rfl ?_
          refine jj_iald F (by assumption) rfl (by omega) dX9_userNow_31 ?_
          rw [e1]
          refine jj_iload_n F dX9_userNow_32 rfl ?_
          refine jj_icmp_ne F (tgt := 40) dX9_userNow_33 (by decide) (fun _ => ?_) (fun h9 => absurd h9 (hu9))
          refine jj_iconst F (v := nI 0) dX9_userNow_40 (by decide) ?_
          refine jj_istore F dX9_userNow_41 (by rw [hnl]; decide) ?_
          dsimp only [lq_st, lq_clr, lq_no]
          refine jj_iload_n F dX9_userNow_43 rfl ?_
          refine jj_iload F dX9_userNow_44 rfl ?_
          refine jj_if_eq F (tgt := 87) dX9_userNow_46 (by decide) (fun _ => ?_) (fun h9 => absurd (rfl) h9)
          refine jj_iload F dX9_userNow_87 rfl ?_
          refine jj_if_eq F (tgt := 106) dX9_userNow_89 (by decide) (fun _ => ?_) (fun h9 => absurd (rfl) h9)
          refine jj_iconst F (v := nI 0) dX9_userNow_106 (by decide) ?_
          refine jj_iadd F dX9_userNow_107 ?_
          refine jj_istore_n F dX9_userNow_108 (by rw [hnl]; decide) ?_
          dsimp only [lq_st, lq_clr, lq_no]
          refine jj_iinc F dX9_userNow_109 rfl (by first | exact iinc1 _ | rfl) (by rw [hnl]; decide) ?_
          dsimp only [lq_st, lq_clr, lq_no]
          refine jj_goto F (tgt := 16) dX9_userNow_112 (by decide) ?_
          refine jj_less (L2 := [some (.ref ((zE Z).2.2 478)), some (.int (nI u)), some (.int (nI 2)), some (.int (nI (fb_ct (fun j => decide (a_op a j 1 = nI u) && decide (0 < a_un a j)) (i + 1)))), some (.int (nI (i + 1))), none]) ?_ ih
          rw [fb_ct_succ]
          simp only [hu9, decide_false, Bool.false_and, Bool.false_eq_true, if_false, nI_add, Nat.add_zero]
          exact less5 _ _ _ _ _ _
    refine jj_iload_n F dX9_userNow_0 rfl ?_
    refine jj_iconst F (v := nI 4) dX9_userNow_1 (by decide) ?_
    refine jj_icmp_ne F (tgt := 11) dX9_userNow_2 (by decide) (fun _ => ?_) (fun h9 => absurd h9 (by decide))
    refine jj_iconst F (v := nI 0) dX9_userNow_11 (by decide) ?_
    refine jj_istore_n F dX9_userNow_12 (by rw [hnl]; decide) ?_
    dsimp only [lq_st, lq_clr, lq_no]
    refine jj_iconst F (v := nI 0) dX9_userNow_13 (by decide) ?_
    refine jj_istore F dX9_userNow_14 (by rw [hnl]; decide) ?_
    dsimp only [lq_st, lq_clr, lq_no]
    exact lo 0 (by omega)
  · have lo : ∀ i, i ≤ a_n a → JJ Z (0, 0) M 16 [some (.ref ((zE Z).2.2 478)), some (.int (nI u)), some (.int (nI 3)), some (.int (coA a (nI u) i)), some (.int (nI i)), none] [] := by
      refine jj_loop (a_n a) ?_ ?_
      · refine jj_iload F dX9_userNow_16 rfl ?_
        refine jj_aload_n F dX9_userNow_18 rfl ?_
        refine jj_geti F g95 (by assumption) (by rfl) dX9_userNow_19 ?_
        rw [hn]
        refine jj_icmp_ge F (tgt := 115) dX9_userNow_22 (by decide) (fun _ => ?_) (fun h9 => absurd (nI_le (by omega) (by omega)) h9)
        refine jj_iload_n F dX9_userNow_115 rfl ?_
        refine ret _ _ _ _ dX9_userNow_116 (by first | rfl | exact nar_z (by first | exact Or.inl rfl | exact Or.inr rfl | exact b2i_01 _ | assumption)) ?_
        exact ⟨rfl, hD, Fr_rf M⟩
      · intro i hi ih
        have e1 : M.1 480 i = a_op a i 1 := hop i hi 1 (by omega)
        have e2 := hac i hi
        have e3 := hun i hi
        have hui := hu3 i hi
        by_cases hu9 : a_op a i 1 = nI u
        · refine jj_iload F dX9_userNow_16 rfl ?_
          refine jj_aload_n F dX9_userNow_18 rfl ?_
          refine jj_geti F g95 (by assumption) (by rfl) dX9_userNow_19 ?_
          rw [hn]
          refine jj_icmp_ge F (tgt := 115) dX9_userNow_22 (by decide) (fun h9 => absurd h9 (nI_ge (by omega) (by omega))) (fun _ => ?_)
          refine jj_aload_n F dX9_userNow_25 rfl ?_
          refine jj_getr F g13 (by assumption) (by rfl) dX9_userNow_26 ?_
          refine jj_iload F dX9_userNow_29 rfl ?_
          refine jj_iald F (by assumption) rfl (by omega) dX9_userNow_31 ?_
          rw [e1]
          refine jj_iload_n F dX9_userNow_32 rfl ?_
          refine jj_icmp_ne F (tgt := 40) dX9_userNow_33 (by decide) (fun h9 => absurd h9 (fun h9 => h9 hu9)) (fun _ => ?_)
          refine jj_iconst F (v := nI 1) dX9_userNow_36 (by decide) ?_
          refine jj_goto F (tgt := 41) dX9_userNow_37 (by decide) ?_
          refine jj_istore F dX9_userNow_41 (by rw [hnl]; decide) ?_
          dsimp only [lq_st, lq_clr, lq_no]
          refine jj_iload_n F dX9_userNow_43 rfl ?_
          refine jj_iload F dX9_userNow_44 rfl ?_
          refine jj_if_eq F (tgt := 87) dX9_userNow_46 (by decide) (fun h9 => absurd h9 (by decide)) (fun _ => ?_)
          refine jj_iload_n F dX9_userNow_49 rfl ?_
          refine jj_if_eq F (tgt := 83) dX9_userNow_50 (by decide) (fun h9 => absurd h9 (by decide)) (fun _ => ?_)
          refine jj_iload_n F dX9_userNow_53 rfl ?_
          refine jj_iconst F (v := nI 1) dX9_userNow_54 (by decide) ?_
          refine jj_icmp_ne F (tgt := 68) dX9_userNow_55 (by decide) (fun _ => ?_) (fun h9 => absurd h9 (by decide))
          refine jj_iload_n F dX9_userNow_68 rfl ?_
          refine jj_iconst F (v := nI 2) dX9_userNow_69 (by decide) ?_
          refine jj_icmp_ne F (tgt := 87) dX9_userNow_70 (by decide) (fun _ => ?_) (fun h9 => absurd h9 (by decide))
          refine jj_iload F dX9_userNow_87 rfl ?_
          refine jj_if_eq F (tgt := 106) dX9_userNow_89 (by decide) (fun h9 => absurd h9 (by decide)) (fun _ => ?_)
          refine jj_iload_n F dX9_userNow_92 rfl ?_
          refine jj_iconst F (v := nI 3) dX9_userNow_93 (by decide) ?_
          refine jj_icmp_ne F (tgt := 106) dX9_userNow_94 (by decide) (fun h9 => absurd h9 (fun h9 => h9 rfl)) (fun _ => ?_)
          refine jj_aload_n F dX9_userNow_97 rfl ?_
          refine jj_iload F dX9_userNow_98 rfl ?_
          refine jj_callVi (na := 1) F c_X9_onTop (gl_V mk_X9_256 vw_X9_onTop) rfl rfl rfl (by decide +kernel) ⟨Nat.le_of_ble_eq_true rfl, Nat.le_of_ble_eq_true rfl⟩ (by assumption) rfl rfl rfl (Nat.le_of_ble_eq_true rfl) ⟨Nat.le_of_ble_eq_true rfl, Nat.le_of_ble_eq_true rfl⟩ dX9_userNow_100 (fun r100 M100 hp100 => ?_)
          obtain ⟨rfl, rfl⟩ := symm2 hp100
          refine jj_goto F (tgt := 107) dX9_userNow_103 (by decide) ?_
          refine jj_iadd F dX9_userNow_107 ?_
          refine jj_istore_n F dX9_userNow_108 (by rw [hnl]; decide) ?_
          dsimp only [lq_st, lq_clr, lq_no]
          refine jj_iinc F dX9_userNow_109 rfl (by first | exact iinc1 _ | rfl) (by rw [hnl]; decide) ?_
          dsimp only [lq_st, lq_clr, lq_no]
          refine jj_goto F (tgt := 16) dX9_userNow_112 (by decide) ?_
          refine jj_less (L2 := [some (.ref ((zE Z).2.2 478)), some (.int (nI u)), some (.int (nI 3)), some (.int (coA a (nI u) (i + 1))), some (.int (nI (i + 1))), none]) ?_ ih
          rw [show coA a (nI u) (i + 1) = coA a (nI u) i + OF (tpA a) 256 i from if_pos hu9]
          rw [show OF (tpA a) 256 i = nI (fb_ct (fun c => decide (M.1 499 c = nI i)) 256) by unfold OF; rw [if_pos (show i < 60 by omega), fb_ct_cong (fun c hc => by rw [← Ld_top hD hc])]]
          exact less5 _ _ _ _ _ _
        · refine jj_iload F dX9_userNow_16 rfl ?_
          refine jj_aload_n F dX9_userNow_18 rfl ?_
          refine jj_geti F g95 (by assumption) (by rfl) dX9_userNow_19 ?_
          rw [hn]
          refine jj_icmp_ge F (tgt := 115) dX9_userNow_22 (by decide) (fun h9 => absurd h9 (nI_ge (by omega) (by omega))) (fun _ => ?_)
          refine jj_aload_n F dX9_userNow_25 rfl ?_
          refine jj_getr F g13 (by assumption) (by rfl) dX9_userNow_26 ?_
          refine jj_iload F dX9_userNow_29 rfl ?_
          refine jj_iald F (by assumption) rfl (by omega) dX9_userNow_31 ?_
          rw [e1]
          refine jj_iload_n F dX9_userNow_32 rfl ?_
          refine jj_icmp_ne F (tgt := 40) dX9_userNow_33 (by decide) (fun _ => ?_) (fun h9 => absurd h9 (hu9))
          refine jj_iconst F (v := nI 0) dX9_userNow_40 (by decide) ?_
          refine jj_istore F dX9_userNow_41 (by rw [hnl]; decide) ?_
          dsimp only [lq_st, lq_clr, lq_no]
          refine jj_iload_n F dX9_userNow_43 rfl ?_
          refine jj_iload F dX9_userNow_44 rfl ?_
          refine jj_if_eq F (tgt := 87) dX9_userNow_46 (by decide) (fun _ => ?_) (fun h9 => absurd (rfl) h9)
          refine jj_iload F dX9_userNow_87 rfl ?_
          refine jj_if_eq F (tgt := 106) dX9_userNow_89 (by decide) (fun _ => ?_) (fun h9 => absurd (rfl) h9)
          refine jj_iconst F (v := nI 0) dX9_userNow_106 (by decide) ?_
          refine jj_iadd F dX9_userNow_107 ?_
          refine jj_istore_n F dX9_userNow_108 (by rw [hnl]; decide) ?_
          dsimp only [lq_st, lq_clr, lq_no]
          refine jj_iinc F dX9_userNow_109 rfl (by first | exact iinc1 _ | rfl) (by rw [hnl]; decide) ?_
          dsimp only [lq_st, lq_clr, lq_no]
          refine jj_goto F (tgt := 16) dX9_userNow_112 (by decide) ?_
          refine jj_less (L2 := [some (.ref ((zE Z).2.2 478)), some (.int (nI u)), some (.int (nI 3)), some (.int (coA a (nI u) (i + 1))), some (.int (nI (i + 1))), none]) ?_ ih
          rw [show coA a (nI u) (i + 1) = coA a (nI u) i from if_neg hu9]
          show ∀ i_1 v, _ → ([_, _, _, some (Value.int (coA a (nI u) i + nI 0)), _, _] : List (Option Value))[i_1]? = _
          rw [show coA a (nI u) i + nI 0 = coA a (nI u) i from i32_add0 _]
          exact less5 _ _ _ _ _ _
    refine jj_iload_n F dX9_userNow_0 rfl ?_
    refine jj_iconst F (v := nI 4) dX9_userNow_1 (by decide) ?_
    refine jj_icmp_ne F (tgt := 11) dX9_userNow_2 (by decide) (fun _ => ?_) (fun h9 => absurd h9 (by decide))
    refine jj_iconst F (v := nI 0) dX9_userNow_11 (by decide) ?_
    refine jj_istore_n F dX9_userNow_12 (by rw [hnl]; decide) ?_
    dsimp only [lq_st, lq_clr, lq_no]
    refine jj_iconst F (v := nI 0) dX9_userNow_13 (by decide) ?_
    refine jj_istore F dX9_userNow_14 (by rw [hnl]; decide) ?_
    dsimp only [lq_st, lq_clr, lq_no]
    exact lo 0 (by omega)
  · refine jj_iload_n F dX9_userNow_0 rfl ?_
    refine jj_iconst F (v := nI 4) dX9_userNow_1 (by decide) ?_
    refine jj_icmp_ne F (tgt := 11) dX9_userNow_2 (by decide) (fun h9 => absurd h9 (fun h9 => h9 rfl)) (fun _ => ?_)
    refine jj_aload_n F dX9_userNow_5 rfl ?_
    refine jj_iload_n F dX9_userNow_6 rfl ?_
    refine jj_callVi (na := 1) F (c_X9_leasesOf hll hlk.1) (gl_V mk_X9_238 vw_X9_leasesOf) rfl rfl rfl (by decide +kernel) ⟨Nat.le_of_ble_eq_true rfl, Nat.le_of_ble_eq_true rfl⟩ kM rfl rfl rfl (Nat.le_of_ble_eq_true rfl) ⟨Nat.le_of_ble_eq_true rfl, Nat.le_of_ble_eq_true rfl⟩ dX9_userNow_7 (fun r7 M7 hp7 => ?_)
    obtain ⟨rfl, rfl⟩ := symm2 hp7
    refine ret _ _ _ _ dX9_userNow_10 (by first | rfl | exact nar_z (by first | exact Or.inl rfl | exact Or.inr rfl | exact b2i_01 _ | assumption)) ?_
    refine ⟨?_, hD, Fr_rf M⟩
    show _ = nI ((a_lk a).filter (fun z => decide (z.1 = u))).length
    rw [← ct_list (0, 0, 0, 0)]
    congr 1
    refine fb_ct_cong (fun j hj => ?_)
    rw [(hmlh j hj).1, Bool.eq_iff_iff]
    simp only [decide_eq_true_eq]
    have h5 := (hmlh j hj).2.2.2.1
    exact nI_eq (by omega) (by omega)
