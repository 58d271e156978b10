/-- the state behind a stroke or an erasure -/
def stA (a : Ab) (so u la co fa : Nat) : Ab := addA (clbA a) (opF so u la co fa (a_t a)) u (fun d => dwA a d && !clo (a_lk a) u d) 0
noncomputable def flA (a : Ab) (u la co c : Nat) : Ab := addA a (opF 1 u la co 0 (a_t a)) u (fun d => fiA a c d && !clo (a_lk a) u d) (a_ln a)
theorem opOk_F {so u la co fa t : Nat} (h1 : so < 3) (h2 : u < 5) (h3 : la < 3) (h4 : co < 10) (h5 : so = 2 → co < 3) (h6 : ¬ so = 2 → 1 ≤ co) (h7 : fa < 1000) : opOk t (opF so u la co fa t) := ⟨⟨so, h1, rfl⟩, ⟨u, h2, rfl⟩, ⟨la, h3, rfl⟩, ⟨co, h4, rfl, fun e => h5 ((nI_eq (by omega) (by omega)).mp e), fun e => h6 (fun q => e (by subst q; rfl))⟩, ⟨fa, h7, rfl⟩, ⟨t, Nat.le_refl _, rfl⟩⟩
theorem num_path {M : Mm} {a : Ab} {s : Ps} (hN : NumR M s) (h : psE s (pvA a)) (hp : okP a = true) : (pvA a).1 / 2 < 6 ∧ M.1 478 28 = nI (2 * ((pvA a).1 / 2) + 1) ∧ (∀ j, j ≤ 2 * ((pvA a).1 / 2) + 1 → M.1 501 j = nI (s.2.2 j)) ∧ (∀ j, s.2.2 j < 16) ∧ drS (fun j => s.2.2 (2 * j)) (fun j => s.2.2 (2 * j + 1)) ((pvA a).1 / 2) = dwA a := by
  obtain ⟨e1, e2⟩ := rd_cells h hp
  obtain ⟨n1, n2, n3, n4, n5⟩ := hN
  have hs : s.2.1.isSome = true := by
    unfold okP pthB at hp
    simp only [Bool.and_eq_true, beq_iff_eq, decide_eq_true_eq] at hp
    have h3 : (pvA a).2.1.isSome = true := hp.2
    rw [h.2.1]; exact h3
  refine ⟨by have := n5.1; omega, by rw [← e1]; exact n1, fun j hj => ?_, n5.2.2, ?_⟩
  · by_cases q : j = s.1
    · obtain ⟨v, hv⟩ := Option.isSome_iff_exists.mp hs
      rw [q, n3, n4 v hv, hv]
      rfl
    · exact n2 j (by omega)
  · rw [← e2, show s.1 / 2 = (pvA a).1 / 2 by omega]
theorem Pub_lp {M M1 : Mm} {g : Nat → Int64} (h : NumF M M1) : Pub M (wA (wL (thr M1 (nI 0)) 487 g) 478 (upd ((thr M1 (nI 0)).1 478) 22 (nI 0))) 0 := by
  obtain ⟨h1, h2⟩ := LoM_num h
  exact ⟨fun x hx => by rw [wA_n (by omega), wL_1, wA_n (by omega)]; exact h1 x hx, by rw [wA_2, wL_n (by decide)]; exact h2, rfl⟩
theorem RelM_lp {M M1 : Mm} {a : Ab} {W : Nat} {C : Nat → Nat → Bool} {S : Nat → Bool} (h : RelM M1 a W) (hC : ∀ i, i < a_n a → ∀ c, c < 256 → C i c = a_C a i c) (hM : M = wA (wL M1 487 (lws (setC C (a_n a) S))) 478 (upd (M1.1 478) 22 (nI 0))) : RelM M (clbA a) W := by
  subst hM
  refine RelM_clb h (fun b hb => ?_) rfl (fun y h1 h2 => ?_) ⟨_, by rw [wA_2, wL_s], fun i hi c hc => ?_⟩ (by rw [wA_2, wL_n (by decide)]) ?_
  · rcases hb with rfl | rfl | rfl | rfl <;> rfl
  · rw [wA_n (by omega), wL_1]
  · rw [setC_o (by omega)]; exact hC i hi c hc
  · obtain ⟨L, hL⟩ := h.2.2.2.2
    exact ⟨L, by rw [wA_2, wL_n (by decide)]; exact hL⟩
set_option maxRecDepth 100000 in
set_option maxHeartbeats 1000000 in
theorem m_stroke_1 {l : Launch} {E : Ee} {M : Mm} {a : Ab} {W : Nat} (hM : RelM M a W) {x y z w : Int32} (hw : (wiB x (nI 0) (nI 4) && wiB y (nI 0) (nI 2)) = false) : CtI l E yX9_stroke (.code yX9_stroke cX9_stroke 5 (some .int) :: gl) ({ frames := 4, cells := 0, slots := 0, locals := 99 } : Room) M [.ref (E.2.2 478), .int x, .int y, .int z, .int w] 0 0 (fun r M2 => r = nI 0 ∧ RelM M2 a W ∧ Pub M M2 1) := by
  refine ctI_of (L0 := [some (.ref (E.2.2 478)), some (.int x), some (.int y), some (.int z), some (.int w)]) (by decide) rfl (Nat.le_of_ble_eq_true rfl) rfl ?_
  intro Z hl hE hnl F ret
  subst hE
  have in_X9 : ∀ w ∈ u_ws RX9 TX9 33, w ∈ (.code yX9_stroke cX9_stroke 5 (some .int) :: gl) := fun w h => List.mem_cons_of_mem _ (lay_X9 w h)
  have g87 : FG Z 87 9 0 := fg_mk F (C := RX9) (T := TX9) (N := 33) in_X9 rfl (by decide) rfl (List.mem_cons_of_mem _ fk_X9_87)
  have g95 : FG Z 95 9 2 := fg_mk F (C := RX9) (T := TX9) (N := 33) in_X9 rfl (by decide) rfl (List.mem_cons_of_mem _ fk_X9_95)
  have p87 : FP Z 87 9 0 .int := fp_mk F (C := RX9) (T := TX9) (N := 33) in_X9 tyX9_ok nmX9 rfl (by decide) rfl (List.mem_cons_of_mem _ fk_X9_87) rfl (by decide +kernel)
  obtain ⟨⟨h60, ht, htk, hn, hop, hac, hun, hopk, ⟨u0, hu1, hu2, hu3⟩, C, hC, hCa⟩, ⟨hlk, hll, hlz⟩, hK, ⟨hln, hl40, htx⟩, L0, hL0⟩ := id hM
  have kM := kd_M
  have k479 := kd_479
  have k480 := kd_480
  have k481 := kd_481
  have k482 := kd_482
  have k483 := kd_483
  have k484 := kd_484
  have k485 := kd_485
  have k486 := kd_486
  have k487 := kd_487
  have k488 := kd_488
  have k489 := kd_489
  have k490 := kd_490
  have k491 := kd_491
  have k492 := kd_492
  have k493 := kd_493
  have k494 := kd_494
  have k495 := kd_495
  have k496 := kd_496
  have k497 := kd_497
  have k498 := kd_498
  have k499 := kd_499
  have k500 := kd_500
  have k501 := kd_501
  have k502 := kd_502
  have k503 := kd_503
  refine jj_aload_n F dX9_stroke_0 rfl ?_
  refine jj_iload_n F dX9_stroke_1 rfl ?_
  refine jj_iload_n F dX9_stroke_2 rfl ?_
  refine jj_callSi (na := 2) F c_X9_isPlace (gl_S mk_X9_187 vw_X9_isPlace) rfl rfl rfl (by decide +kernel) ⟨Nat.le_of_ble_eq_true rfl, Nat.le_of_ble_eq_true rfl⟩ rfl rfl (Nat.le_of_ble_eq_true rfl) ⟨Nat.le_of_ble_eq_true rfl, Nat.le_of_ble_eq_true rfl⟩ dX9_stroke_3 (fun r3 M3 hp3 => ?_)
  obtain ⟨rfl, rfl⟩ := symm2 hp3
  refine jj_if_ne F (tgt := 13) dX9_stroke_6 (by decide) (fun h9 => absurd h9 (fun z => z (by rw [hw]; rfl))) (fun _ => ?_)
  refine jj_iconst F (v := nI 1) dX9_stroke_9 (by decide) ?_
  refine jj_goto F (tgt := 60) dX9_stroke_10 (by decide) ?_
  refine jj_puti F p87 (by assumption) (by rfl) dX9_stroke_60 ?_
  refine jj_aload_n F dX9_stroke_63 rfl ?_
  refine jj_geti F g87 (by assumption) (by rfl) dX9_stroke_64 ?_
  rw [thr_0]
  refine jj_if_le F (tgt := 72) dX9_stroke_67 (by decide) (fun h9 => absurd h9 (by decide)) (fun _ => ?_)
  refine jj_iconst F (v := nI 0) dX9_stroke_70 (by decide) ?_
  refine ret _ _ _ _ dX9_stroke_71 (by first | rfl | exact nar_z (by first | exact Or.inl rfl | exact Or.inr rfl | exact b2i_01 _ | assumption)) ?_
  exact ⟨rfl, RelM_thr hM, Pub_0⟩
set_option maxRecDepth 100000 in
set_option maxHeartbeats 1000000 in
theorem m_stroke_2a {l : Launch} {E : Ee} {M : Mm} {a : Ab} {W : Nat} (hM : RelM M a W) {u la : Nat} (hu : u < 5) (hla : la < 3) {z w : Int32} (hz : wiB z (nI 1) (nI 9) = false) : CtI l E yX9_stroke (.code yX9_stroke cX9_stroke 5 (some .int) :: gl) ({ frames := 4, cells := 0, slots := 0, locals := 99 } : Room) M [.ref (E.2.2 478), .int (nI u), .int (nI la), .int z, .int w] 0 0 (fun r M2 => r = nI 0 ∧ RelM M2 a W ∧ Pub M M2 2) := by
  refine ctI_of (L0 := [some (.ref (E.2.2 478)), some (.int (nI u)), some (.int (nI la)), some (.int z), some (.int w)]) (by decide) rfl (Nat.le_of_ble_eq_true rfl) rfl ?_
  intro Z hl hE hnl F ret
  subst hE
  have in_X9 : ∀ w ∈ u_ws RX9 TX9 33, w ∈ (.code yX9_stroke cX9_stroke 5 (some .int) :: gl) := fun w h => List.mem_cons_of_mem _ (lay_X9 w h)
  have g87 : FG Z 87 9 0 := fg_mk F (C := RX9) (T := TX9) (N := 33) in_X9 rfl (by decide) rfl (List.mem_cons_of_mem _ fk_X9_87)
  have g95 : FG Z 95 9 2 := fg_mk F (C := RX9) (T := TX9) (N := 33) in_X9 rfl (by decide) rfl (List.mem_cons_of_mem _ fk_X9_95)
  have p87 : FP Z 87 9 0 .int := fp_mk F (C := RX9) (T := TX9) (N := 33) in_X9 tyX9_ok nmX9 rfl (by decide) rfl (List.mem_cons_of_mem _ fk_X9_87) rfl (by decide +kernel)
  obtain ⟨⟨h60, ht, htk, hn, hop, hac, hun, hopk, ⟨u0, hu1, hu2, hu3⟩, C, hC, hCa⟩, ⟨hlk, hll, hlz⟩, hK, ⟨hln, hl40, htx⟩, L0, hL0⟩ := id hM
  have kM := kd_M
  have k479 := kd_479
  have k480 := kd_480
  have k481 := kd_481
  have k482 := kd_482
  have k483 := kd_483
  have k484 := kd_484
  have k485 := kd_485
  have k486 := kd_486
  have k487 := kd_487
  have k488 := kd_488
  have k489 := kd_489
  have k490 := kd_490
  have k491 := kd_491
  have k492 := kd_492
  have k493 := kd_493
  have k494 := kd_494
  have k495 := kd_495
  have k496 := kd_496
  have k497 := kd_497
  have k498 := kd_498
  have k499 := kd_499
  have k500 := kd_500
  have k501 := kd_501
  have k502 := kd_502
  have k503 := kd_503
  have hpl : (wiB (nI u) (nI 0) (nI 4) && wiB (nI la) (nI 0) (nI 2)) = true := by rw [wi_ok (by omega) (by omega) (by omega), wi_ok (by omega) (by omega) (by omega)]; rfl
  refine jj_aload_n F dX9_stroke_0 rfl ?_
  refine jj_iload_n F dX9_stroke_1 rfl ?_
  refine jj_iload_n F dX9_stroke_2 rfl ?_
  refine jj_callSi (na := 2) F c_X9_isPlace (gl_S mk_X9_187 vw_X9_isPlace) rfl rfl rfl (by decide +kernel) ⟨Nat.le_of_ble_eq_true rfl, Nat.le_of_ble_eq_true rfl⟩ rfl rfl (Nat.le_of_ble_eq_true rfl) ⟨Nat.le_of_ble_eq_true rfl, Nat.le_of_ble_eq_true rfl⟩ dX9_stroke_3 (fun r3 M3 hp3 => ?_)
  obtain ⟨rfl, rfl⟩ := symm2 hp3
  refine jj_if_ne F (tgt := 13) dX9_stroke_6 (by decide) (fun _ => ?_) (fun h9 => absurd h9 (by rw [hpl]; decide))
  refine jj_iload_n F dX9_stroke_13 rfl ?_
  refine jj_iconst F (v := nI 1) dX9_stroke_14 (by decide) ?_
  refine jj_bipush F (v := nI 9) dX9_stroke_15 (by decide) ?_
  refine jj_callSi (na := 3) F c_X9_within (gl_S mk_X9_91 vw_X9_within) rfl rfl rfl (by decide +kernel) ⟨Nat.le_of_ble_eq_true rfl, Nat.le_of_ble_eq_true rfl⟩ rfl rfl (Nat.le_of_ble_eq_true rfl) ⟨Nat.le_of_ble_eq_true rfl, Nat.le_of_ble_eq_true rfl⟩ dX9_stroke_17 (fun r17 M17 hp17 => ?_)
  obtain ⟨rfl, rfl⟩ := symm2 hp17
  refine jj_if_eq F (tgt := 35) dX9_stroke_20 (by decide) (fun _ => ?_) (fun h9 => absurd (by rw [hz]; rfl) h9)
  refine jj_iconst F (v := nI 2) dX9_stroke_35 (by decide) ?_
  refine jj_goto F (tgt := 60) dX9_stroke_36 (by decide) ?_
  refine jj_puti F p87 (by assumption) (by rfl) dX9_stroke_60 ?_
  refine jj_aload_n F dX9_stroke_63 rfl ?_
  refine jj_geti F g87 (by assumption) (by rfl) dX9_stroke_64 ?_
  rw [thr_0]
  refine jj_if_le F (tgt := 72) dX9_stroke_67 (by decide) (fun h9 => absurd h9 (by decide)) (fun _ => ?_)
  refine jj_iconst F (v := nI 0) dX9_stroke_70 (by decide) ?_
  refine ret _ _ _ _ dX9_stroke_71 (by first | rfl | exact nar_z (by first | exact Or.inl rfl | exact Or.inr rfl | exact b2i_01 _ | assumption)) ?_
  exact ⟨rfl, RelM_thr hM, Pub_0⟩
set_option maxRecDepth 100000 in
set_option maxHeartbeats 1000000 in
theorem m_stroke_2b {l : Launch} {E : Ee} {M : Mm} {a : Ab} {W : Nat} (hM : RelM M a W) {u la : Nat} (hu : u < 5) (hla : la < 3) {co : Nat} {w : Int32} (h1 : 1 ≤ co) (h9 : co ≤ 9) (hz : wiB w (nI 0) (nI 999) = false) : CtI l E yX9_stroke (.code yX9_stroke cX9_stroke 5 (some .int) :: gl) ({ frames := 4, cells := 0, slots := 0, locals := 99 } : Room) M [.ref (E.2.2 478), .int (nI u), .int (nI la), .int (nI co), .int w] 0 0 (fun r M2 => r = nI 0 ∧ RelM M2 a W ∧ Pub M M2 2) := by
  refine ctI_of (L0 := [some (.ref (E.2.2 478)), some (.int (nI u)), some (.int (nI la)), some (.int (nI co)), some (.int w)]) (by decide) rfl (Nat.le_of_ble_eq_true rfl) rfl ?_
  intro Z hl hE hnl F ret
  subst hE
  have in_X9 : ∀ w ∈ u_ws RX9 TX9 33, w ∈ (.code yX9_stroke cX9_stroke 5 (some .int) :: gl) := fun w h => List.mem_cons_of_mem _ (lay_X9 w h)
  have g87 : FG Z 87 9 0 := fg_mk F (C := RX9) (T := TX9) (N := 33) in_X9 rfl (by decide) rfl (List.mem_cons_of_mem _ fk_X9_87)
  have g95 : FG Z 95 9 2 := fg_mk F (C := RX9) (T := TX9) (N := 33) in_X9 rfl (by decide) rfl (List.mem_cons_of_mem _ fk_X9_95)
  have p87 : FP Z 87 9 0 .int := fp_mk F (C := RX9) (T := TX9) (N := 33) in_X9 tyX9_ok nmX9 rfl (by decide) rfl (List.mem_cons_of_mem _ fk_X9_87) rfl (by decide +kernel)
  obtain ⟨⟨h60, ht, htk, hn, hop, hac, hun, hopk, ⟨u0, hu1, hu2, hu3⟩, C, hC, hCa⟩, ⟨hlk, hll, hlz⟩, hK, ⟨hln, hl40, htx⟩, L0, hL0⟩ := id hM
  have kM := kd_M
  have k479 := kd_479
  have k480 := kd_480
  have k481 := kd_481
  have k482 := kd_482
  have k483 := kd_483
  have k484 := kd_484
  have k485 := kd_485
  have k486 := kd_486
  have k487 := kd_487
  have k488 := kd_488
  have k489 := kd_489
  have k490 := kd_490
  have k491 := kd_491
  have k492 := kd_492
  have k493 := kd_493
  have k494 := kd_494
  have k495 := kd_495
  have k496 := kd_496
  have k497 := kd_497
  have k498 := kd_498
  have k499 := kd_499
  have k500 := kd_500
  have k501 := kd_501
  have k502 := kd_502
  have k503 := kd_503
  have hpl : (wiB (nI u) (nI 0) (nI 4) && wiB (nI la) (nI 0) (nI 2)) = true := by rw [wi_ok (by omega) (by omega) (by omega), wi_ok (by omega) (by omega) (by omega)]; rfl
  have hco := wi_ok (lo := 1) (c := co) (hi := 9) (by omega) (by omega) (by omega)
  refine jj_aload_n F dX9_stroke_0 rfl ?_
  refine jj_iload_n F dX9_stroke_1 rfl ?_
  refine jj_iload_n F dX9_stroke_2 rfl ?_
  refine jj_callSi (na := 2) F c_X9_isPlace (gl_S mk_X9_187 vw_X9_isPlace) rfl rfl rfl (by decide +kernel) ⟨Nat.le_of_ble_eq_true rfl, Nat.le_of_ble_eq_true rfl⟩ rfl rfl (Nat.le_of_ble_eq_true rfl) ⟨Nat.le_of_ble_eq_true rfl, Nat.le_of_ble_eq_true rfl⟩ dX9_stroke_3 (fun r3 M3 hp3 => ?_)
  obtain ⟨rfl, rfl⟩ := symm2 hp3
  refine jj_if_ne F (tgt := 13) dX9_stroke_6 (by decide) (fun _ => ?_) (fun h9 => absurd h9 (by rw [hpl]; decide))
  refine jj_iload_n F dX9_stroke_13 rfl ?_
  refine jj_iconst F (v := nI 1) dX9_stroke_14 (by decide) ?_
  refine jj_bipush F (v := nI 9) dX9_stroke_15 (by decide) ?_
  refine jj_callSi (na := 3) F c_X9_within (gl_S mk_X9_91 vw_X9_within) rfl rfl rfl (by decide +kernel) ⟨Nat.le_of_ble_eq_true rfl, Nat.le_of_ble_eq_true rfl⟩ rfl rfl (Nat.le_of_ble_eq_true rfl) ⟨Nat.le_of_ble_eq_true rfl, Nat.le_of_ble_eq_true rfl⟩ dX9_stroke_17 (fun r17 M17 hp17 => ?_)
  obtain ⟨rfl, rfl⟩ := symm2 hp17
  refine jj_if_eq F (tgt := 35) dX9_stroke_20 (by decide) (fun h9 => absurd h9 (by rw [hco]; decide)) (fun _ => ?_)
  refine jj_iload F dX9_stroke_23 rfl ?_
  refine jj_iconst F (v := nI 0) dX9_stroke_25 (by decide) ?_
  refine jj_sipush F (v := nI 999) dX9_stroke_26 (by decide) ?_
  refine jj_callSi (na := 3) F c_X9_within (gl_S mk_X9_91 vw_X9_within) rfl rfl rfl (by decide +kernel) ⟨Nat.le_of_ble_eq_true rfl, Nat.le_of_ble_eq_true rfl⟩ rfl rfl (Nat.le_of_ble_eq_true rfl) ⟨Nat.le_of_ble_eq_true rfl, Nat.le_of_ble_eq_true rfl⟩ dX9_stroke_29 (fun r29 M29 hp29 => ?_)
  obtain ⟨rfl, rfl⟩ := symm2 hp29
  refine jj_if_ne F (tgt := 39) dX9_stroke_32 (by decide) (fun h9 => absurd h9 (fun z => z (by rw [hz]; rfl))) (fun _ => ?_)
  refine jj_iconst F (v := nI 2) dX9_stroke_35 (by decide) ?_
  refine jj_goto F (tgt := 60) dX9_stroke_36 (by decide) ?_
  refine jj_puti F p87 (by assumption) (by rfl) dX9_stroke_60 ?_
  refine jj_aload_n F dX9_stroke_63 rfl ?_
  refine jj_geti F g87 (by assumption) (by rfl) dX9_stroke_64 ?_
  rw [thr_0]
  refine jj_if_le F (tgt := 72) dX9_stroke_67 (by decide) (fun h9 => absurd h9 (by decide)) (fun _ => ?_)
  refine jj_iconst F (v := nI 0) dX9_stroke_70 (by decide) ?_
  refine ret _ _ _ _ dX9_stroke_71 (by first | rfl | exact nar_z (by first | exact Or.inl rfl | exact Or.inr rfl | exact b2i_01 _ | assumption)) ?_
  exact ⟨rfl, RelM_thr hM, Pub_0⟩
set_option maxRecDepth 100000 in
set_option maxHeartbeats 1000000 in
theorem m_stroke_3a {l : Launch} {E : Ee} {M : Mm} {a : Ab} {W : Nat} (hM : RelM M a W) {u la : Nat} (hu : u < 5) (hla : la < 3) {co fa : Nat} (h1 : 1 ≤ co) (h9 : co ≤ 9) (hf9 : fa ≤ 999) (hok : okP a = false) : CtI l E yX9_stroke (.code yX9_stroke cX9_stroke 5 (some .int) :: gl) ({ frames := 4, cells := 0, slots := 0, locals := 99 } : Room) M [.ref (E.2.2 478), .int (nI u), .int (nI la), .int (nI co), .int (nI fa)] 0 0 (fun r M2 => r = nI 0 ∧ RelM M2 a W ∧ Pub M M2 3) := by
  refine ctI_of (L0 := [some (.ref (E.2.2 478)), some (.int (nI u)), some (.int (nI la)), some (.int (nI co)), some (.int (nI fa))]) (by decide) rfl (Nat.le_of_ble_eq_true rfl) rfl ?_
  intro Z hl hE hnl F ret
  subst hE
  have in_X9 : ∀ w ∈ u_ws RX9 TX9 33, w ∈ (.code yX9_stroke cX9_stroke 5 (some .int) :: gl) := fun w h => List.mem_cons_of_mem _ (lay_X9 w h)
  have g87 : FG Z 87 9 0 := fg_mk F (C := RX9) (T := TX9) (N := 33) in_X9 rfl (by decide) rfl (List.mem_cons_of_mem _ fk_X9_87)
  have g95 : FG Z 95 9 2 := fg_mk F (C := RX9) (T := TX9) (N := 33) in_X9 rfl (by decide) rfl (List.mem_cons_of_mem _ fk_X9_95)
  have p87 : FP Z 87 9 0 .int := fp_mk F (C := RX9) (T := TX9) (N := 33) in_X9 tyX9_ok nmX9 rfl (by decide) rfl (List.mem_cons_of_mem _ fk_X9_87) rfl (by decide +kernel)
  obtain ⟨⟨h60, ht, htk, hn, hop, hac, hun, hopk, ⟨u0, hu1, hu2, hu3⟩, C, hC, hCa⟩, ⟨hlk, hll, hlz⟩, hK, ⟨hln, hl40, htx⟩, L0, hL0⟩ := id hM
  have kM := kd_M
  have k479 := kd_479
  have k480 := kd_480
  have k481 := kd_481
  have k482 := kd_482
  have k483 := kd_483
  have k484 := kd_484
  have k485 := kd_485
  have k486 := kd_486
  have k487 := kd_487
  have k488 := kd_488
  have k489 := kd_489
  have k490 := kd_490
  have k491 := kd_491
  have k492 := kd_492
  have k493 := kd_493
  have k494 := kd_494
  have k495 := kd_495
  have k496 := kd_496
  have k497 := kd_497
  have k498 := kd_498
  have k499 := kd_499
  have k500 := kd_500
  have k501 := kd_501
  have k502 := kd_502
  have k503 := kd_503
  have hpl : (wiB (nI u) (nI 0) (nI 4) && wiB (nI la) (nI 0) (nI 2)) = true := by rw [wi_ok (by omega) (by omega) (by omega), wi_ok (by omega) (by omega) (by omega)]; rfl
  have hco := wi_ok (lo := 1) (c := co) (hi := 9) (by omega) (by omega) (by omega)
  have hfa := wi_ok (lo := 0) (c := fa) (hi := 999) (by omega) (by omega) (by omega)
  refine jj_aload_n F dX9_stroke_0 rfl ?_
  refine jj_iload_n F dX9_stroke_1 rfl ?_
  refine jj_iload_n F dX9_stroke_2 rfl ?_
  refine jj_callSi (na := 2) F c_X9_isPlace (gl_S mk_X9_187 vw_X9_isPlace) rfl rfl rfl (by decide +kernel) ⟨Nat.le_of_ble_eq_true rfl, Nat.le_of_ble_eq_true rfl⟩ rfl rfl (Nat.le_of_ble_eq_true rfl) ⟨Nat.le_of_ble_eq_true rfl, Nat.le_of_ble_eq_true rfl⟩ dX9_stroke_3 (fun r3 M3 hp3 => ?_)
  obtain ⟨rfl, rfl⟩ := symm2 hp3
  refine jj_if_ne F (tgt := 13) dX9_stroke_6 (by decide) (fun _ => ?_) (fun h9 => absurd h9 (by rw [hpl]; decide))
  refine jj_iload_n F dX9_stroke_13 rfl ?_
  refine jj_iconst F (v := nI 1) dX9_stroke_14 (by decide) ?_
  refine jj_bipush F (v := nI 9) dX9_stroke_15 (by decide) ?_
  refine jj_callSi (na := 3) F c_X9_within (gl_S mk_X9_91 vw_X9_within) rfl rfl rfl (by decide +kernel) ⟨Nat.le_of_ble_eq_true rfl, Nat.le_of_ble_eq_true rfl⟩ rfl rfl (Nat.le_of_ble_eq_true rfl) ⟨Nat.le_of_ble_eq_true rfl, Nat.le_of_ble_eq_true rfl⟩ dX9_stroke_17 (fun r17 M17 hp17 => ?_)
  obtain ⟨rfl, rfl⟩ := symm2 hp17
  refine jj_if_eq F (tgt := 35) dX9_stroke_20 (by decide) (fun h9 => absurd h9 (by rw [hco]; decide)) (fun _ => ?_)
  refine jj_iload F dX9_stroke_23 rfl ?_
  refine jj_iconst F (v := nI 0) dX9_stroke_25 (by decide) ?_
  refine jj_sipush F (v := nI 999) dX9_stroke_26 (by decide) ?_
  refine jj_callSi (na := 3) F c_X9_within (gl_S mk_X9_91 vw_X9_within) rfl rfl rfl (by decide +kernel) ⟨Nat.le_of_ble_eq_true rfl, Nat.le_of_ble_eq_true rfl⟩ rfl rfl (Nat.le_of_ble_eq_true rfl) ⟨Nat.le_of_ble_eq_true rfl, Nat.le_of_ble_eq_true rfl⟩ dX9_stroke_29 (fun r29 M29 hp29 => ?_)
  obtain ⟨rfl, rfl⟩ := symm2 hp29
  refine jj_if_ne F (tgt := 39) dX9_stroke_32 (by decide) (fun _ => ?_) (fun h9 => absurd h9 (by rw [hfa]; decide))
  refine jj_aload_n F dX9_stroke_39 rfl ?_
  refine jj_callVi (na := 0) F (c_X9_isPath (len := a_ln a) hln hl40) (gl_V mk_X9_190 vw_X9_isPath) rfl rfl rfl (by decide +kernel) ⟨Nat.le_of_ble_eq_true rfl, Nat.le_of_ble_eq_true rfl⟩ kM rfl rfl rfl (Nat.le_of_ble_eq_true rfl) ⟨Nat.le_of_ble_eq_true rfl, Nat.le_of_ble_eq_true rfl⟩ dX9_stroke_40 (fun r40 MP hpP => ?_)
  obtain ⟨hpB, hpN, hpF⟩ := hpP
  obtain ⟨-, rd2, rd3⟩ := rd_path (a := a) (v := fun _ => 0) (fun j hj => htx j hj)
  rw [rd2, hok] at hpB
  subst hpB
  have hMP := RelM_num hM hpF
  have hnP : MP.1 478 2 = nI (a_n a) := hMP.1.2.2.2.1
  refine jj_if_eq F (tgt := 59) dX9_stroke_43 (by decide) (fun _ => ?_) (fun h9 => absurd (rfl) h9)
  refine jj_iconst F (v := nI 3) dX9_stroke_59 (by decide) ?_
  refine jj_puti F p87 (by assumption) (by rfl) dX9_stroke_60 ?_
  refine jj_aload_n F dX9_stroke_63 rfl ?_
  refine jj_geti F g87 (by assumption) (by rfl) dX9_stroke_64 ?_
  rw [thr_0]
  refine jj_if_le F (tgt := 72) dX9_stroke_67 (by decide) (fun h9 => absurd h9 (by decide)) (fun _ => ?_)
  refine jj_iconst F (v := nI 0) dX9_stroke_70 (by decide) ?_
  refine ret _ _ _ _ dX9_stroke_71 (by first | rfl | exact nar_z (by first | exact Or.inl rfl | exact Or.inr rfl | exact b2i_01 _ | assumption)) ?_
  exact ⟨rfl, RelM_thr hMP, Pub_tr (LoM_num hpF) (FrD_rf _)⟩
set_option maxRecDepth 100000 in
set_option maxHeartbeats 1000000 in
theorem m_stroke_3b {l : Launch} {E : Ee} {M : Mm} {a : Ab} {W : Nat} (hM : RelM M a W) {u la : Nat} (hu : u < 5) (hla : la < 3) {co fa : Nat} (h1 : 1 ≤ co) (h9 : co ≤ 9) (hf9 : fa ≤ 999) (hok : okP a = true) (hful : a_n a = 60) : CtI l E yX9_stroke (.code yX9_stroke cX9_stroke 5 (some .int) :: gl) ({ frames := 4, cells := 0, slots := 0, locals := 99 } : Room) M [.ref (E.2.2 478), .int (nI u), .int (nI la), .int (nI co), .int (nI fa)] 0 0 (fun r M2 => r = nI 0 ∧ RelM M2 a W ∧ Pub M M2 3) := by
  refine ctI_of (L0 := [some (.ref (E.2.2 478)), some (.int (nI u)), some (.int (nI la)), some (.int (nI co)), some (.int (nI fa))]) (by decide) rfl (Nat.le_of_ble_eq_true rfl) rfl ?_
  intro Z hl hE hnl F ret
  subst hE
  have in_X9 : ∀ w ∈ u_ws RX9 TX9 33, w ∈ (.code yX9_stroke cX9_stroke 5 (some .int) :: gl) := fun w h => List.mem_cons_of_mem _ (lay_X9 w h)
  have g87 : FG Z 87 9 0 := fg_mk F (C := RX9) (T := TX9) (N := 33) in_X9 rfl (by decide) rfl (List.mem_cons_of_mem _ fk_X9_87)
  have g95 : FG Z 95 9 2 := fg_mk F (C := RX9) (T := TX9) (N := 33) in_X9 rfl (by decide) rfl (List.mem_cons_of_mem _ fk_X9_95)
  have p87 : FP Z 87 9 0 .int := fp_mk F (C := RX9) (T := TX9) (N := 33) in_X9 tyX9_ok nmX9 rfl (by decide) rfl (List.mem_cons_of_mem _ fk_X9_87) rfl (by decide +kernel)
  obtain ⟨⟨h60, ht, htk, hn, hop, hac, hun, hopk, ⟨u0, hu1, hu2, hu3⟩, C, hC, hCa⟩, ⟨hlk, hll, hlz⟩, hK, ⟨hln, hl40, htx⟩, L0, hL0⟩ := id hM
  have kM := kd_M
  have k479 := kd_479
  have k480 := kd_480
  have k481 := kd_481
  have k482 := kd_482
  have k483 := kd_483
  have k484 := kd_484
  have k485 := kd_485
  have k486 := kd_486
  have k487 := kd_487
  have k488 := kd_488
  have k489 := kd_489
  have k490 := kd_490
  have k491 := kd_491
  have k492 := kd_492
  have k493 := kd_493
  have k494 := kd_494
  have k495 := kd_495
  have k496 := kd_496
  have k497 := kd_497
  have k498 := kd_498
  have k499 := kd_499
  have k500 := kd_500
  have k501 := kd_501
  have k502 := kd_502
  have k503 := kd_503
  have hpl : (wiB (nI u) (nI 0) (nI 4) && wiB (nI la) (nI 0) (nI 2)) = true := by rw [wi_ok (by omega) (by omega) (by omega), wi_ok (by omega) (by omega) (by omega)]; rfl
  have hco := wi_ok (lo := 1) (c := co) (hi := 9) (by omega) (by omega) (by omega)
  have hfa := wi_ok (lo := 0) (c := fa) (hi := 999) (by omega) (by omega) (by omega)
  refine jj_aload_n F dX9_stroke_0 rfl ?_
  refine jj_iload_n F dX9_stroke_1 rfl ?_
  refine jj_iload_n F dX9_stroke_2 rfl ?_
  refine jj_callSi (na := 2) F c_X9_isPlace (gl_S mk_X9_187 vw_X9_isPlace) rfl rfl rfl (by decide +kernel) ⟨Nat.le_of_ble_eq_true rfl, Nat.le_of_ble_eq_true rfl⟩ rfl rfl (Nat.le_of_ble_eq_true rfl) ⟨Nat.le_of_ble_eq_true rfl, Nat.le_of_ble_eq_true rfl⟩ dX9_stroke_3 (fun r3 M3 hp3 => ?_)
  obtain ⟨rfl, rfl⟩ := symm2 hp3
  refine jj_if_ne F (tgt := 13) dX9_stroke_6 (by decide) (fun _ => ?_) (fun h9 => absurd h9 (by rw [hpl]; decide))
  refine jj_iload_n F dX9_stroke_13 rfl ?_
  refine jj_iconst F (v := nI 1) dX9_stroke_14 (by decide) ?_
  refine jj_bipush F (v := nI 9) dX9_stroke_15 (by decide) ?_
  refine jj_callSi (na := 3) F c_X9_within (gl_S mk_X9_91 vw_X9_within) rfl rfl rfl (by decide +kernel) ⟨Nat.le_of_ble_eq_true rfl, Nat.le_of_ble_eq_true rfl⟩ rfl rfl (Nat.le_of_ble_eq_true rfl) ⟨Nat.le_of_ble_eq_true rfl, Nat.le_of_ble_eq_true rfl⟩ dX9_stroke_17 (fun r17 M17 hp17 => ?_)
  obtain ⟨rfl, rfl⟩ := symm2 hp17
  refine jj_if_eq F (tgt := 35) dX9_stroke_20 (by decide) (fun h9 => absurd h9 (by rw [hco]; decide)) (fun _ => ?_)
  refine jj_iload F dX9_stroke_23 rfl ?_
  refine jj_iconst F (v := nI 0) dX9_stroke_25 (by decide) ?_
  refine jj_sipush F (v := nI 999) dX9_stroke_26 (by decide) ?_
  refine jj_callSi (na := 3) F c_X9_within (gl_S mk_X9_91 vw_X9_within) rfl rfl rfl (by decide +kernel) ⟨Nat.le_of_ble_eq_true rfl, Nat.le_of_ble_eq_true rfl⟩ rfl rfl (Nat.le_of_ble_eq_true rfl) ⟨Nat.le_of_ble_eq_true rfl, Nat.le_of_ble_eq_true rfl⟩ dX9_stroke_29 (fun r29 M29 hp29 => ?_)
  obtain ⟨rfl, rfl⟩ := symm2 hp29
  refine jj_if_ne F (tgt := 39) dX9_stroke_32 (by decide) (fun _ => ?_) (fun h9 => absurd h9 (by rw [hfa]; decide))
  refine jj_aload_n F dX9_stroke_39 rfl ?_
  refine jj_callVi (na := 0) F (c_X9_isPath (len := a_ln a) hln hl40) (gl_V mk_X9_190 vw_X9_isPath) rfl rfl rfl (by decide +kernel) ⟨Nat.le_of_ble_eq_true rfl, Nat.le_of_ble_eq_true rfl⟩ kM rfl rfl rfl (Nat.le_of_ble_eq_true rfl) ⟨Nat.le_of_ble_eq_true rfl, Nat.le_of_ble_eq_true rfl⟩ dX9_stroke_40 (fun r40 MP hpP => ?_)
  obtain ⟨hpB, hpN, hpF⟩ := hpP
  obtain ⟨-, rd2, rd3⟩ := rd_path (a := a) (v := fun _ => 0) (fun j hj => htx j hj)
  rw [rd2, hok] at hpB
  subst hpB
  have hMP := RelM_num hM hpF
  have hnP : MP.1 478 2 = nI (a_n a) := hMP.1.2.2.2.1
  refine jj_if_eq F (tgt := 59) dX9_stroke_43 (by decide) (fun h9 => absurd h9 (by decide)) (fun _ => ?_)
  refine jj_aload_n F dX9_stroke_46 rfl ?_
  refine jj_geti F g95 (by assumption) (by rfl) dX9_stroke_47 ?_
  rw [hnP]
  refine jj_bipush F (v := nI 60) dX9_stroke_50 (by decide) ?_
  refine jj_icmp_ge F (tgt := 59) dX9_stroke_52 (by decide) (fun _ => ?_) (fun h9 => absurd (nI_le (a := 60) (by omega) (by omega)) h9)
  refine jj_iconst F (v := nI 3) dX9_stroke_59 (by decide) ?_
  refine jj_puti F p87 (by assumption) (by rfl) dX9_stroke_60 ?_
  refine jj_aload_n F dX9_stroke_63 rfl ?_
  refine jj_geti F g87 (by assumption) (by rfl) dX9_stroke_64 ?_
  rw [thr_0]
  refine jj_if_le F (tgt := 72) dX9_stroke_67 (by decide) (fun h9 => absurd h9 (by decide)) (fun _ => ?_)
  refine jj_iconst F (v := nI 0) dX9_stroke_70 (by decide) ?_
  refine ret _ _ _ _ dX9_stroke_71 (by first | rfl | exact nar_z (by first | exact Or.inl rfl | exact Or.inr rfl | exact b2i_01 _ | assumption)) ?_
  exact ⟨rfl, RelM_thr hMP, Pub_tr (LoM_num hpF) (FrD_rf _)⟩
set_option maxRecDepth 100000 in
set_option maxHeartbeats 1000000 in
theorem m_stroke_0 {l : Launch} {E : Ee} {M : Mm} {a : Ab} {W : Nat} (hM : RelM M a W) {u la : Nat} (hu : u < 5) (hla : la < 3) {co fa : Nat} (h1 : 1 ≤ co) (h9 : co ≤ 9) (hf9 : fa ≤ 999) (hok : okP a = true) (h60n : a_n a < 60) : CtI l E yX9_stroke (.code yX9_stroke cX9_stroke 5 (some .int) :: gl) ({ frames := 4, cells := 0, slots := 0, locals := 99 } : Room) M [.ref (E.2.2 478), .int (nI u), .int (nI la), .int (nI co), .int (nI fa)] 0 0 (fun r M2 => r = nI (csz (fun d => dwA a d && !clo (a_lk a) u d)) ∧ RelM M2 (stA a 0 u la co fa) W ∧ Pub M M2 0) := by
  refine ctI_of (L0 := [some (.ref (E.2.2 478)), some (.int (nI u)), some (.int (nI la)), some (.int (nI co)), some (.int (nI fa))]) (by decide) rfl (Nat.le_of_ble_eq_true rfl) rfl ?_
  intro Z hl hE hnl F ret
  subst hE
  have in_X9 : ∀ w ∈ u_ws RX9 TX9 33, w ∈ (.code yX9_stroke cX9_stroke 5 (some .int) :: gl) := fun w h => List.mem_cons_of_mem _ (lay_X9 w h)
  have g87 : FG Z 87 9 0 := fg_mk F (C := RX9) (T := TX9) (N := 33) in_X9 rfl (by decide) rfl (List.mem_cons_of_mem _ fk_X9_87)
  have g95 : FG Z 95 9 2 := fg_mk F (C := RX9) (T := TX9) (N := 33) in_X9 rfl (by decide) rfl (List.mem_cons_of_mem _ fk_X9_95)
  have p87 : FP Z 87 9 0 .int := fp_mk F (C := RX9) (T := TX9) (N := 33) in_X9 tyX9_ok nmX9 rfl (by decide) rfl (List.mem_cons_of_mem _ fk_X9_87) rfl (by decide +kernel)
  obtain ⟨⟨h60, ht, htk, hn, hop, hac, hun, hopk, ⟨u0, hu1, hu2, hu3⟩, C, hC, hCa⟩, ⟨hlk, hll, hlz⟩, hK, ⟨hln, hl40, htx⟩, L0, hL0⟩ := id hM
  have kM := kd_M
  have k479 := kd_479
  have k480 := kd_480
  have k481 := kd_481
  have k482 := kd_482
  have k483 := kd_483
  have k484 := kd_484
  have k485 := kd_485
  have k486 := kd_486
  have k487 := kd_487
  have k488 := kd_488
  have k489 := kd_489
  have k490 := kd_490
  have k491 := kd_491
  have k492 := kd_492
  have k493 := kd_493
  have k494 := kd_494
  have k495 := kd_495
  have k496 := kd_496
  have k497 := kd_497
  have k498 := kd_498
  have k499 := kd_499
  have k500 := kd_500
  have k501 := kd_501
  have k502 := kd_502
  have k503 := kd_503
  have hpl : (wiB (nI u) (nI 0) (nI 4) && wiB (nI la) (nI 0) (nI 2)) = true := by rw [wi_ok (by omega) (by omega) (by omega), wi_ok (by omega) (by omega) (by omega)]; rfl
  have hco := wi_ok (lo := 1) (c := co) (hi := 9) (by omega) (by omega) (by omega)
  have hfa := wi_ok (lo := 0) (c := fa) (hi := 999) (by omega) (by omega) (by omega)
  refine jj_aload_n F dX9_stroke_0 rfl ?_
  refine jj_iload_n F dX9_stroke_1 rfl ?_
  refine jj_iload_n F dX9_stroke_2 rfl ?_
  refine jj_callSi (na := 2) F c_X9_isPlace (gl_S mk_X9_187 vw_X9_isPlace) rfl rfl rfl (by decide +kernel) ⟨Nat.le_of_ble_eq_true rfl, Nat.le_of_ble_eq_true rfl⟩ rfl rfl (Nat.le_of_ble_eq_true rfl) ⟨Nat.le_of_ble_eq_true rfl, Nat.le_of_ble_eq_true rfl⟩ dX9_stroke_3 (fun r3 M3 hp3 => ?_)
  obtain ⟨rfl, rfl⟩ := symm2 hp3
  refine jj_if_ne F (tgt := 13) dX9_stroke_6 (by decide) (fun _ => ?_) (fun h9 => absurd h9 (by rw [hpl]; decide))
  refine jj_iload_n F dX9_stroke_13 rfl ?_
  refine jj_iconst F (v := nI 1) dX9_stroke_14 (by decide) ?_
  refine jj_bipush F (v := nI 9) dX9_stroke_15 (by decide) ?_
  refine jj_callSi (na := 3) F c_X9_within (gl_S mk_X9_91 vw_X9_within) rfl rfl rfl (by decide +kernel) ⟨Nat.le_of_ble_eq_true rfl, Nat.le_of_ble_eq_true rfl⟩ rfl rfl (Nat.le_of_ble_eq_true rfl) ⟨Nat.le_of_ble_eq_true rfl, Nat.le_of_ble_eq_true rfl⟩ dX9_stroke_17 (fun r17 M17 hp17 => ?_)
  obtain ⟨rfl, rfl⟩ := symm2 hp17
  refine jj_if_eq F (tgt := 35) dX9_stroke_20 (by decide) (fun h9 => absurd h9 (by rw [hco]; decide)) (fun _ => ?_)
  refine jj_iload F dX9_stroke_23 rfl ?_
  refine jj_iconst F (v := nI 0) dX9_stroke_25 (by decide) ?_
  refine jj_sipush F (v := nI 999) dX9_stroke_26 (by decide) ?_
  refine jj_callSi (na := 3) F c_X9_within (gl_S mk_X9_91 vw_X9_within) rfl rfl rfl (by decide +kernel) ⟨Nat.le_of_ble_eq_true rfl, Nat.le_of_ble_eq_true rfl⟩ rfl rfl (Nat.le_of_ble_eq_true rfl) ⟨Nat.le_of_ble_eq_true rfl, Nat.le_of_ble_eq_true rfl⟩ dX9_stroke_29 (fun r29 M29 hp29 => ?_)
  obtain ⟨rfl, rfl⟩ := symm2 hp29
  refine jj_if_ne F (tgt := 39) dX9_stroke_32 (by decide) (fun _ => ?_) (fun h9 => absurd h9 (by rw [hfa]; decide))
  refine jj_aload_n F dX9_stroke_39 rfl ?_
  refine jj_callVi (na := 0) F (c_X9_isPath (len := a_ln a) hln hl40) (gl_V mk_X9_190 vw_X9_isPath) rfl rfl rfl (by decide +kernel) ⟨Nat.le_of_ble_eq_true rfl, Nat.le_of_ble_eq_true rfl⟩ kM rfl rfl rfl (Nat.le_of_ble_eq_true rfl) ⟨Nat.le_of_ble_eq_true rfl, Nat.le_of_ble_eq_true rfl⟩ dX9_stroke_40 (fun r40 MP hpP => ?_)
  obtain ⟨hpB, hpN, hpF⟩ := hpP
  obtain ⟨-, rd2, rd3⟩ := rd_path (a := a) (v := fun _ => 0) (fun j hj => htx j hj)
  rw [rd2, hok] at hpB
  subst hpB
  have hMP := RelM_num hM hpF
  have hnP : MP.1 478 2 = nI (a_n a) := hMP.1.2.2.2.1
  refine jj_if_eq F (tgt := 59) dX9_stroke_43 (by decide) (fun h9 => absurd h9 (by decide)) (fun _ => ?_)
  refine jj_aload_n F dX9_stroke_46 rfl ?_
  refine jj_geti F g95 (by assumption) (by rfl) dX9_stroke_47 ?_
  rw [hnP]
  refine jj_bipush F (v := nI 60) dX9_stroke_50 (by decide) ?_
  refine jj_icmp_ge F (tgt := 59) dX9_stroke_52 (by decide) (fun h9 => absurd h9 (nI_ge (by omega) (by omega))) (fun _ => ?_)
  refine jj_iconst F (v := nI 0) dX9_stroke_55 (by decide) ?_
  refine jj_goto F (tgt := 60) dX9_stroke_56 (by decide) ?_
  refine jj_puti F p87 (by assumption) (by rfl) dX9_stroke_60 ?_
  refine jj_aload_n F dX9_stroke_63 rfl ?_
  refine jj_geti F g87 (by assumption) (by rfl) dX9_stroke_64 ?_
  rw [thr_0]
  refine jj_if_le F (tgt := 72) dX9_stroke_67 (by decide) (fun _ => ?_) (fun h9 => absurd (by decide) h9)
  refine jj_aload_n F dX9_stroke_72 rfl ?_
  obtain ⟨np1, np2, np3, np4, np5⟩ := num_path hpN rd3 hok
  have hCP : MP.2 487 = lws C := by rw [NumF_2 hpF]; exact hC
  refine jj_callVv (na := 0) F (c_X9_layPath (M := thr MP (nI 0)) (n := a_n a) (C := C) hnP h60n hCP np1 np2 np3 np4) (gl_V mk_X9_194 vw_X9_layPath) rfl rfl rfl (by decide +kernel) ⟨Nat.le_of_ble_eq_true rfl, Nat.le_of_ble_eq_true rfl⟩ kM rfl rfl rfl (Nat.le_of_ble_eq_true rfl) ⟨Nat.le_of_ble_eq_true rfl, Nat.le_of_ble_eq_true rfl⟩ dX9_stroke_73 (fun ML hpL => ?_)
  rw [np5] at hpL
  have hML := RelM_lp (RelM_thr hMP) hCa hpL
  have hPL : Pub M ML 0 := by rw [hpL]; exact Pub_lp hpF
  refine jj_aload_n F dX9_stroke_76 rfl ?_
  refine jj_iconst F (v := nI 0) dX9_stroke_77 (by decide) ?_
  refine jj_iload_n F dX9_stroke_78 rfl ?_
  refine jj_iload_n F dX9_stroke_79 rfl ?_
  refine jj_iload_n F dX9_stroke_80 rfl ?_
  refine jj_iload F dX9_stroke_81 rfl ?_
  refine jj_callVi (na := 5) F (c_X9_add (M := ML) (a := clbA a) (W := W) (C0 := C) (S := dwA a) (so := 0) (u := u) (la := la) (co := co) (fa := fa) hML h60n (by rw [hpL, wA_2, wL_s]; rfl) hCa hu (opOk_F (by omega) hu hla (by omega) (by omega) (by omega) (by omega))) (gl_V mk_X9_197 vw_X9_add) rfl rfl rfl (by decide +kernel) ⟨Nat.le_of_ble_eq_true rfl, Nat.le_of_ble_eq_true rfl⟩ kM rfl rfl rfl (Nat.le_of_ble_eq_true rfl) ⟨Nat.le_of_ble_eq_true rfl, Nat.le_of_ble_eq_true rfl⟩ dX9_stroke_83 (fun r83 M83 hp83 => ?_)
  refine ret _ _ _ _ dX9_stroke_86 (by first | rfl | exact nar_z (by first | exact Or.inl rfl | exact Or.inr rfl | exact b2i_01 _ | assumption)) ?_
  exact ⟨hp83.1, hp83.2.1, Pub_A hPL hp83.2.2 (FrD_rf _)⟩
set_option maxRecDepth 100000 in
set_option maxHeartbeats 1000000 in
theorem m_erase_1 {l : Launch} {E : Ee} {M : Mm} {a : Ab} {W : Nat} (hM : RelM M a W) {x y z : Int32} (hw : (wiB x (nI 0) (nI 4) && wiB y (nI 0) (nI 2)) = false) : CtI l E yX9_erase (.code yX9_erase cX9_erase 4 (some .int) :: gl) ({ frames := 5, cells := 0, slots := 0, locals := 115 } : Room) M [.ref (E.2.2 478), .int x, .int y, .int z] 0 0 (fun r M2 => r = nI 0 ∧ RelM M2 a W ∧ Pub M M2 1) := by
  refine ctI_of (L0 := [some (.ref (E.2.2 478)), some (.int x), some (.int y), some (.int z)]) (by decide) rfl (Nat.le_of_ble_eq_true rfl) rfl ?_
  intro Z hl hE hnl F ret
  subst hE
  have in_X9 : ∀ w ∈ u_ws RX9 TX9 33, w ∈ (.code yX9_erase cX9_erase 4 (some .int) :: gl) := fun w h => List.mem_cons_of_mem _ (lay_X9 w h)
  have g87 : FG Z 87 9 0 := fg_mk F (C := RX9) (T := TX9) (N := 33) in_X9 rfl (by decide) rfl (List.mem_cons_of_mem _ fk_X9_87)
  have g95 : FG Z 95 9 2 := fg_mk F (C := RX9) (T := TX9) (N := 33) in_X9 rfl (by decide) rfl (List.mem_cons_of_mem _ fk_X9_95)
  have p87 : FP Z 87 9 0 .int := fp_mk F (C := RX9) (T := TX9) (N := 33) in_X9 tyX9_ok nmX9 rfl (by decide) rfl (List.mem_cons_of_mem _ fk_X9_87) rfl (by decide +kernel)
  obtain ⟨⟨h60, ht, htk, hn, hop, hac, hun, hopk, ⟨u0, hu1, hu2, hu3⟩, C, hC, hCa⟩, ⟨hlk, hll, hlz⟩, hK, ⟨hln, hl40, htx⟩, L0, hL0⟩ := id hM
  have kM := kd_M
  have k479 := kd_479
  have k480 := kd_480
  have k481 := kd_481
  have k482 := kd_482
  have k483 := kd_483
  have k484 := kd_484
  have k485 := kd_485
  have k486 := kd_486
  have k487 := kd_487
  have k488 := kd_488
  have k489 := kd_489
  have k490 := kd_490
  have k491 := kd_491
  have k492 := kd_492
  have k493 := kd_493
  have k494 := kd_494
  have k495 := kd_495
  have k496 := kd_496
  have k497 := kd_497
  have k498 := kd_498
  have k499 := kd_499
  have k500 := kd_500
  have k501 := kd_501
  have k502 := kd_502
  have k503 := kd_503
  refine jj_aload_n F dX9_erase_0 rfl ?_
  refine jj_iload_n F dX9_erase_1 rfl ?_
  refine jj_iload_n F dX9_erase_2 rfl ?_
  refine jj_callSi (na := 2) F c_X9_isPlace (gl_S mk_X9_187 vw_X9_isPlace) rfl rfl rfl (by decide +kernel) ⟨Nat.le_of_ble_eq_true rfl, Nat.le_of_ble_eq_true rfl⟩ rfl rfl (Nat.le_of_ble_eq_true rfl) ⟨Nat.le_of_ble_eq_true rfl, Nat.le_of_ble_eq_true rfl⟩ dX9_erase_3 (fun r3 M3 hp3 => ?_)
  obtain ⟨rfl, rfl⟩ := symm2 hp3
  refine jj_if_ne F (tgt := 13) dX9_erase_6 (by decide) (fun h9 => absurd h9 (fun z => z (by rw [hw]; rfl))) (fun _ => ?_)
  refine jj_iconst F (v := nI 1) dX9_erase_9 (by decide) ?_
  refine jj_goto F (tgt := 47) dX9_erase_10 (by decide) ?_
  refine jj_puti F p87 (by assumption) (by rfl) dX9_erase_47 ?_
  refine jj_aload_n F dX9_erase_50 rfl ?_
  refine jj_geti F g87 (by assumption) (by rfl) dX9_erase_51 ?_
  rw [thr_0]
  refine jj_if_le F (tgt := 59) dX9_erase_54 (by decide) (fun h9 => absurd h9 (by decide)) (fun _ => ?_)
  refine jj_iconst F (v := nI 0) dX9_erase_57 (by decide) ?_
  refine ret _ _ _ _ dX9_erase_58 (by first | rfl | exact nar_z (by first | exact Or.inl rfl | exact Or.inr rfl | exact b2i_01 _ | assumption)) ?_
  exact ⟨rfl, RelM_thr hM, Pub_0⟩
set_option maxRecDepth 100000 in
set_option maxHeartbeats 1000000 in
theorem m_erase_2 {l : Launch} {E : Ee} {M : Mm} {a : Ab} {W : Nat} (hM : RelM M a W) {u la : Nat} (hu : u < 5) (hla : la < 3) {z : Int32} (hz : wiB z (nI 0) (nI 2) = false) : CtI l E yX9_erase (.code yX9_erase cX9_erase 4 (some .int) :: gl) ({ frames := 5, cells := 0, slots := 0, locals := 115 } : Room) M [.ref (E.2.2 478), .int (nI u), .int (nI la), .int z] 0 0 (fun r M2 => r = nI 0 ∧ RelM M2 a W ∧ Pub M M2 2) := by
  refine ctI_of (L0 := [some (.ref (E.2.2 478)), some (.int (nI u)), some (.int (nI la)), some (.int z)]) (by decide) rfl (Nat.le_of_ble_eq_true rfl) rfl ?_
  intro Z hl hE hnl F ret
  subst hE
  have in_X9 : ∀ w ∈ u_ws RX9 TX9 33, w ∈ (.code yX9_erase cX9_erase 4 (some .int) :: gl) := fun w h => List.mem_cons_of_mem _ (lay_X9 w h)
  have g87 : FG Z 87 9 0 := fg_mk F (C := RX9) (T := TX9) (N := 33) in_X9 rfl (by decide) rfl (List.mem_cons_of_mem _ fk_X9_87)
  have g95 : FG Z 95 9 2 := fg_mk F (C := RX9) (T := TX9) (N := 33) in_X9 rfl (by decide) rfl (List.mem_cons_of_mem _ fk_X9_95)
  have p87 : FP Z 87 9 0 .int := fp_mk F (C := RX9) (T := TX9) (N := 33) in_X9 tyX9_ok nmX9 rfl (by decide) rfl (List.mem_cons_of_mem _ fk_X9_87) rfl (by decide +kernel)
  obtain ⟨⟨h60, ht, htk, hn, hop, hac, hun, hopk, ⟨u0, hu1, hu2, hu3⟩, C, hC, hCa⟩, ⟨hlk, hll, hlz⟩, hK, ⟨hln, hl40, htx⟩, L0, hL0⟩ := id hM
  have kM := kd_M
  have k479 := kd_479
  have k480 := kd_480
  have k481 := kd_481
  have k482 := kd_482
  have k483 := kd_483
  have k484 := kd_484
  have k485 := kd_485
  have k486 := kd_486
  have k487 := kd_487
  have k488 := kd_488
  have k489 := kd_489
  have k490 := kd_490
  have k491 := kd_491
  have k492 := kd_492
  have k493 := kd_493
  have k494 := kd_494
  have k495 := kd_495
  have k496 := kd_496
  have k497 := kd_497
  have k498 := kd_498
  have k499 := kd_499
  have k500 := kd_500
  have k501 := kd_501
  have k502 := kd_502
  have k503 := kd_503
  have hpl : (wiB (nI u) (nI 0) (nI 4) && wiB (nI la) (nI 0) (nI 2)) = true := by rw [wi_ok (by omega) (by omega) (by omega), wi_ok (by omega) (by omega) (by omega)]; rfl
  refine jj_aload_n F dX9_erase_0 rfl ?_
  refine jj_iload_n F dX9_erase_1 rfl ?_
  refine jj_iload_n F dX9_erase_2 rfl ?_
  refine jj_callSi (na := 2) F c_X9_isPlace (gl_S mk_X9_187 vw_X9_isPlace) rfl rfl rfl (by decide +kernel) ⟨Nat.le_of_ble_eq_true rfl, Nat.le_of_ble_eq_true rfl⟩ rfl rfl (Nat.le_of_ble_eq_true rfl) ⟨Nat.le_of_ble_eq_true rfl, Nat.le_of_ble_eq_true rfl⟩ dX9_erase_3 (fun r3 M3 hp3 => ?_)
  obtain ⟨rfl, rfl⟩ := symm2 hp3
  refine jj_if_ne F (tgt := 13) dX9_erase_6 (by decide) (fun _ => ?_) (fun h9 => absurd h9 (by rw [hpl]; decide))
  refine jj_iload_n F dX9_erase_13 rfl ?_
  refine jj_iconst F (v := nI 0) dX9_erase_14 (by decide) ?_
  refine jj_iconst F (v := nI 2) dX9_erase_15 (by decide) ?_
  refine jj_callSi (na := 3) F c_X9_within (gl_S mk_X9_91 vw_X9_within) rfl rfl rfl (by decide +kernel) ⟨Nat.le_of_ble_eq_true rfl, Nat.le_of_ble_eq_true rfl⟩ rfl rfl (Nat.le_of_ble_eq_true rfl) ⟨Nat.le_of_ble_eq_true rfl, Nat.le_of_ble_eq_true rfl⟩ dX9_erase_16 (fun r16 M16 hp16 => ?_)
  obtain ⟨rfl, rfl⟩ := symm2 hp16
  refine jj_if_ne F (tgt := 26) dX9_erase_19 (by decide) (fun h9 => absurd h9 (fun z => z (by rw [hz]; rfl))) (fun _ => ?_)
  refine jj_iconst F (v := nI 2) dX9_erase_22 (by decide) ?_
  refine jj_goto F (tgt := 47) dX9_erase_23 (by decide) ?_
  refine jj_puti F p87 (by assumption) (by rfl) dX9_erase_47 ?_
  refine jj_aload_n F dX9_erase_50 rfl ?_
  refine jj_geti F g87 (by assumption) (by rfl) dX9_erase_51 ?_
  rw [thr_0]
  refine jj_if_le F (tgt := 59) dX9_erase_54 (by decide) (fun h9 => absurd h9 (by decide)) (fun _ => ?_)
  refine jj_iconst F (v := nI 0) dX9_erase_57 (by decide) ?_
  refine ret _ _ _ _ dX9_erase_58 (by first | rfl | exact nar_z (by first | exact Or.inl rfl | exact Or.inr rfl | exact b2i_01 _ | assumption)) ?_
  exact ⟨rfl, RelM_thr hM, Pub_0⟩
set_option maxRecDepth 100000 in
set_option maxHeartbeats 1000000 in
theorem m_erase_3a {l : Launch} {E : Ee} {M : Mm} {a : Ab} {W : Nat} (hM : RelM M a W) {u la : Nat} (hu : u < 5) (hla : la < 3) {k : Nat} (hk3 : k < 3) (hok : okP a = false) : CtI l E yX9_erase (.code yX9_erase cX9_erase 4 (some .int) :: gl) ({ frames := 5, cells := 0, slots := 0, locals := 115 } : Room) M [.ref (E.2.2 478), .int (nI u), .int (nI la), .int (nI k)] 0 0 (fun r M2 => r = nI 0 ∧ RelM M2 a W ∧ Pub M M2 3) := by
  refine ctI_of (L0 := [some (.ref (E.2.2 478)), some (.int (nI u)), some (.int (nI la)), some (.int (nI k))]) (by decide) rfl (Nat.le_of_ble_eq_true rfl) rfl ?_
  intro Z hl hE hnl F ret
  subst hE
  have in_X9 : ∀ w ∈ u_ws RX9 TX9 33, w ∈ (.code yX9_erase cX9_erase 4 (some .int) :: gl) := fun w h => List.mem_cons_of_mem _ (lay_X9 w h)
  have g87 : FG Z 87 9 0 := fg_mk F (C := RX9) (T := TX9) (N := 33) in_X9 rfl (by decide) rfl (List.mem_cons_of_mem _ fk_X9_87)
  have g95 : FG Z 95 9 2 := fg_mk F (C := RX9) (T := TX9) (N := 33) in_X9 rfl (by decide) rfl (List.mem_cons_of_mem _ fk_X9_95)
  have p87 : FP Z 87 9 0 .int := fp_mk F (C := RX9) (T := TX9) (N := 33) in_X9 tyX9_ok nmX9 rfl (by decide) rfl (List.mem_cons_of_mem _ fk_X9_87) rfl (by decide +kernel)
  obtain ⟨⟨h60, ht, htk, hn, hop, hac, hun, hopk, ⟨u0, hu1, hu2, hu3⟩, C, hC, hCa⟩, ⟨hlk, hll, hlz⟩, hK, ⟨hln, hl40, htx⟩, L0, hL0⟩ := id hM
  have kM := kd_M
  have k479 := kd_479
  have k480 := kd_480
  have k481 := kd_481
  have k482 := kd_482
  have k483 := kd_483
  have k484 := kd_484
  have k485 := kd_485
  have k486 := kd_486
  have k487 := kd_487
  have k488 := kd_488
  have k489 := kd_489
  have k490 := kd_490
  have k491 := kd_491
  have k492 := kd_492
  have k493 := kd_493
  have k494 := kd_494
  have k495 := kd_495
  have k496 := kd_496
  have k497 := kd_497
  have k498 := kd_498
  have k499 := kd_499
  have k500 := kd_500
  have k501 := kd_501
  have k502 := kd_502
  have k503 := kd_503
  have hpl : (wiB (nI u) (nI 0) (nI 4) && wiB (nI la) (nI 0) (nI 2)) = true := by rw [wi_ok (by omega) (by omega) (by omega), wi_ok (by omega) (by omega) (by omega)]; rfl
  have hki := wi_ok (lo := 0) (c := k) (hi := 2) (by omega) (by omega) (by omega)
  refine jj_aload_n F dX9_erase_0 rfl ?_
  refine jj_iload_n F dX9_erase_1 rfl ?_
  refine jj_iload_n F dX9_erase_2 rfl ?_
  refine jj_callSi (na := 2) F c_X9_isPlace (gl_S mk_X9_187 vw_X9_isPlace) rfl rfl rfl (by decide +kernel) ⟨Nat.le_of_ble_eq_true rfl, Nat.le_of_ble_eq_true rfl⟩ rfl rfl (Nat.le_of_ble_eq_true rfl) ⟨Nat.le_of_ble_eq_true rfl, Nat.le_of_ble_eq_true rfl⟩ dX9_erase_3 (fun r3 M3 hp3 => ?_)
  obtain ⟨rfl, rfl⟩ := symm2 hp3
  refine jj_if_ne F (tgt := 13) dX9_erase_6 (by decide) (fun _ => ?_) (fun h9 => absurd h9 (by rw [hpl]; decide))
  refine jj_iload_n F dX9_erase_13 rfl ?_
  refine jj_iconst F (v := nI 0) dX9_erase_14 (by decide) ?_
  refine jj_iconst F (v := nI 2) dX9_erase_15 (by decide) ?_
  refine jj_callSi (na := 3) F c_X9_within (gl_S mk_X9_91 vw_X9_within) rfl rfl rfl (by decide +kernel) ⟨Nat.le_of_ble_eq_true rfl, Nat.le_of_ble_eq_true rfl⟩ rfl rfl (Nat.le_of_ble_eq_true rfl) ⟨Nat.le_of_ble_eq_true rfl, Nat.le_of_ble_eq_true rfl⟩ dX9_erase_16 (fun r16 M16 hp16 => ?_)
  obtain ⟨rfl, rfl⟩ := symm2 hp16
  refine jj_if_ne F (tgt := 26) dX9_erase_19 (by decide) (fun _ => ?_) (fun h9 => absurd h9 (by rw [hki]; decide))
  refine jj_aload_n F dX9_erase_26 rfl ?_
  refine jj_callVi (na := 0) F (c_X9_isPath (len := a_ln a) hln hl40) (gl_V mk_X9_190 vw_X9_isPath) rfl rfl rfl (by decide +kernel) ⟨Nat.le_of_ble_eq_true rfl, Nat.le_of_ble_eq_true rfl⟩ kM rfl rfl rfl (Nat.le_of_ble_eq_true rfl) ⟨Nat.le_of_ble_eq_true rfl, Nat.le_of_ble_eq_true rfl⟩ dX9_erase_27 (fun r27 MP hpP => ?_)
  obtain ⟨hpB, hpN, hpF⟩ := hpP
  obtain ⟨-, rd2, rd3⟩ := rd_path (a := a) (v := fun _ => 0) (fun j hj => htx j hj)
  rw [rd2, hok] at hpB
  subst hpB
  have hMP := RelM_num hM hpF
  have hnP : MP.1 478 2 = nI (a_n a) := hMP.1.2.2.2.1
  refine jj_if_eq F (tgt := 46) dX9_erase_30 (by decide) (fun _ => ?_) (fun h9 => absurd (rfl) h9)
  refine jj_iconst F (v := nI 3) dX9_erase_46 (by decide) ?_
  refine jj_puti F p87 (by assumption) (by rfl) dX9_erase_47 ?_
  refine jj_aload_n F dX9_erase_50 rfl ?_
  refine jj_geti F g87 (by assumption) (by rfl) dX9_erase_51 ?_
  rw [thr_0]
  refine jj_if_le F (tgt := 59) dX9_erase_54 (by decide) (fun h9 => absurd h9 (by decide)) (fun _ => ?_)
  refine jj_iconst F (v := nI 0) dX9_erase_57 (by decide) ?_
  refine ret _ _ _ _ dX9_erase_58 (by first | rfl | exact nar_z (by first | exact Or.inl rfl | exact Or.inr rfl | exact b2i_01 _ | assumption)) ?_
  exact ⟨rfl, RelM_thr hMP, Pub_tr (LoM_num hpF) (FrD_rf _)⟩
set_option maxRecDepth 100000 in
set_option maxHeartbeats 1000000 in
theorem m_erase_3b {l : Launch} {E : Ee} {M : Mm} {a : Ab} {W : Nat} (hM : RelM M a W) {u la : Nat} (hu : u < 5) (hla : la < 3) {k : Nat} (hk3 : k < 3) (hok : okP a = true) (hful : a_n a = 60) : CtI l E yX9_erase (.code yX9_erase cX9_erase 4 (some .int) :: gl) ({ frames := 5, cells := 0, slots := 0, locals := 115 } : Room) M [.ref (E.2.2 478), .int (nI u), .int (nI la), .int (nI k)] 0 0 (fun r M2 => r = nI 0 ∧ RelM M2 a W ∧ Pub M M2 3) := by
  refine ctI_of (L0 := [some (.ref (E.2.2 478)), some (.int (nI u)), some (.int (nI la)), some (.int (nI k))]) (by decide) rfl (Nat.le_of_ble_eq_true rfl) rfl ?_
  intro Z hl hE hnl F ret
  subst hE
  have in_X9 : ∀ w ∈ u_ws RX9 TX9 33, w ∈ (.code yX9_erase cX9_erase 4 (some .int) :: gl) := fun w h => List.mem_cons_of_mem _ (lay_X9 w h)
  have g87 : FG Z 87 9 0 := fg_mk F (C := RX9) (T := TX9) (N := 33) in_X9 rfl (by decide) rfl (List.mem_cons_of_mem _ fk_X9_87)
  have g95 : FG Z 95 9 2 := fg_mk F (C := RX9) (T := TX9) (N := 33) in_X9 rfl (by decide) rfl (List.mem_cons_of_mem _ fk_X9_95)
  have p87 : FP Z 87 9 0 .int := fp_mk F (C := RX9) (T := TX9) (N := 33) in_X9 tyX9_ok nmX9 rfl (by decide) rfl (List.mem_cons_of_mem _ fk_X9_87) rfl (by decide +kernel)
  obtain ⟨⟨h60, ht, htk, hn, hop, hac, hun, hopk, ⟨u0, hu1, hu2, hu3⟩, C, hC, hCa⟩, ⟨hlk, hll, hlz⟩, hK, ⟨hln, hl40, htx⟩, L0, hL0⟩ := id hM
  have kM := kd_M
  have k479 := kd_479
  have k480 := kd_480
  have k481 := kd_481
  have k482 := kd_482
  have k483 := kd_483
  have k484 := kd_484
  have k485 := kd_485
  have k486 := kd_486
  have k487 := kd_487
  have k488 := kd_488
  have k489 := kd_489
  have k490 := kd_490
  have k491 := kd_491
  have k492 := kd_492
  have k493 := kd_493
  have k494 := kd_494
  have k495 := kd_495
  have k496 := kd_496
  have k497 := kd_497
  have k498 := kd_498
  have k499 := kd_499
  have k500 := kd_500
  have k501 := kd_501
  have k502 := kd_502
  have k503 := kd_503
  have hpl : (wiB (nI u) (nI 0) (nI 4) && wiB (nI la) (nI 0) (nI 2)) = true := by rw [wi_ok (by omega) (by omega) (by omega), wi_ok (by omega) (by omega) (by omega)]; rfl
  have hki := wi_ok (lo := 0) (c := k) (hi := 2) (by omega) (by omega) (by omega)
  refine jj_aload_n F dX9_erase_0 rfl ?_
  refine jj_iload_n F dX9_erase_1 rfl ?_
  refine jj_iload_n F dX9_erase_2 rfl ?_
  refine jj_callSi (na := 2) F c_X9_isPlace (gl_S mk_X9_187 vw_X9_isPlace) rfl rfl rfl (by decide +kernel) ⟨Nat.le_of_ble_eq_true rfl, Nat.le_of_ble_eq_true rfl⟩ rfl rfl (Nat.le_of_ble_eq_true rfl) ⟨Nat.le_of_ble_eq_true rfl, Nat.le_of_ble_eq_true rfl⟩ dX9_erase_3 (fun r3 M3 hp3 => ?_)
  obtain ⟨rfl, rfl⟩ := symm2 hp3
  refine jj_if_ne F (tgt := 13) dX9_erase_6 (by decide) (fun _ => ?_) (fun h9 => absurd h9 (by rw [hpl]; decide))
  refine jj_iload_n F dX9_erase_13 rfl ?_
  refine jj_iconst F (v := nI 0) dX9_erase_14 (by decide) ?_
  refine jj_iconst F (v := nI 2) dX9_erase_15 (by decide) ?_
  refine jj_callSi (na := 3) F c_X9_within (gl_S mk_X9_91 vw_X9_within) rfl rfl rfl (by decide +kernel) ⟨Nat.le_of_ble_eq_true rfl, Nat.le_of_ble_eq_true rfl⟩ rfl rfl (Nat.le_of_ble_eq_true rfl) ⟨Nat.le_of_ble_eq_true rfl, Nat.le_of_ble_eq_true rfl⟩ dX9_erase_16 (fun r16 M16 hp16 => ?_)
  obtain ⟨rfl, rfl⟩ := symm2 hp16
  refine jj_if_ne F (tgt := 26) dX9_erase_19 (by decide) (fun _ => ?_) (fun h9 => absurd h9 (by rw [hki]; decide))
  refine jj_aload_n F dX9_erase_26 rfl ?_
  refine jj_callVi (na := 0) F (c_X9_isPath (len := a_ln a) hln hl40) (gl_V mk_X9_190 vw_X9_isPath) rfl rfl rfl (by decide +kernel) ⟨Nat.le_of_ble_eq_true rfl, Nat.le_of_ble_eq_true rfl⟩ kM rfl rfl rfl (Nat.le_of_ble_eq_true rfl) ⟨Nat.le_of_ble_eq_true rfl, Nat.le_of_ble_eq_true rfl⟩ dX9_erase_27 (fun r27 MP hpP => ?_)
  obtain ⟨hpB, hpN, hpF⟩ := hpP
  obtain ⟨-, rd2, rd3⟩ := rd_path (a := a) (v := fun _ => 0) (fun j hj => htx j hj)
  rw [rd2, hok] at hpB
  subst hpB
  have hMP := RelM_num hM hpF
  have hnP : MP.1 478 2 = nI (a_n a) := hMP.1.2.2.2.1
  refine jj_if_eq F (tgt := 46) dX9_erase_30 (by decide) (fun h9 => absurd h9 (by decide)) (fun _ => ?_)
  refine jj_aload_n F dX9_erase_33 rfl ?_
  refine jj_geti F g95 (by assumption) (by rfl) dX9_erase_34 ?_
  rw [hnP]
  refine jj_bipush F (v := nI 60) dX9_erase_37 (by decide) ?_
  refine jj_icmp_ge F (tgt := 46) dX9_erase_39 (by decide) (fun _ => ?_) (fun h9 => absurd (nI_le (a := 60) (by omega) (by omega)) h9)
  refine jj_iconst F (v := nI 3) dX9_erase_46 (by decide) ?_
  refine jj_puti F p87 (by assumption) (by rfl) dX9_erase_47 ?_
  refine jj_aload_n F dX9_erase_50 rfl ?_
  refine jj_geti F g87 (by assumption) (by rfl) dX9_erase_51 ?_
  rw [thr_0]
  refine jj_if_le F (tgt := 59) dX9_erase_54 (by decide) (fun h9 => absurd h9 (by decide)) (fun _ => ?_)
  refine jj_iconst F (v := nI 0) dX9_erase_57 (by decide) ?_
  refine ret _ _ _ _ dX9_erase_58 (by first | rfl | exact nar_z (by first | exact Or.inl rfl | exact Or.inr rfl | exact b2i_01 _ | assumption)) ?_
  exact ⟨rfl, RelM_thr hMP, Pub_tr (LoM_num hpF) (FrD_rf _)⟩
theorem lay_c {M M2 : Mm} {a : Ab} {go : Nat → Bool} {n : Nat} {t : Int32} (h : LayP M M2 a go n t) : (∀ x, x ≠ 498 → x ≠ 499 → M2.1 x = M.1 x) ∧ ∀ x, x ≠ 497 → M2.2 x = M.2 x := by
  obtain ⟨g, L, f, rfl, -, -, -⟩ := h
  exact ⟨fun x h1 h2 => by rw [wA_n h2, wL_1, wA_n h1], fun x h1 => by rw [wA_2, wL_n h1, wA_2]⟩
set_option maxRecDepth 100000 in
set_option maxHeartbeats 1000000 in
theorem m_erase_0 {l : Launch} {E : Ee} {M : Mm} {a : Ab} {W : Nat} (hM : RelM M a W) {u la : Nat} (hu : u < 5) (hla : la < 3) {k : Nat} (hk3 : k < 3) (hok : okP a = true) (h60n : a_n a < 60) : CtI l E yX9_erase (.code yX9_erase cX9_erase 4 (some .int) :: gl) ({ frames := 5, cells := 0, slots := 0, locals := 115 } : Room) M [.ref (E.2.2 478), .int (nI u), .int (nI la), .int (nI k)] 0 0 (fun r M2 => r = nI (dfC (clA a) (clA (stA a 2 u la k 0))) ∧ RelM M2 (stA a 2 u la k 0) W ∧ Pub M M2 0) := by
  refine ctI_of (L0 := [some (.ref (E.2.2 478)), some (.int (nI u)), some (.int (nI la)), some (.int (nI k))]) (by decide) rfl (Nat.le_of_ble_eq_true rfl) rfl ?_
  intro Z hl hE hnl F ret
  subst hE
  have in_X9 : ∀ w ∈ u_ws RX9 TX9 33, w ∈ (.code yX9_erase cX9_erase 4 (some .int) :: gl) := fun w h => List.mem_cons_of_mem _ (lay_X9 w h)
  have g87 : FG Z 87 9 0 := fg_mk F (C := RX9) (T := TX9) (N := 33) in_X9 rfl (by decide) rfl (List.mem_cons_of_mem _ fk_X9_87)
  have g95 : FG Z 95 9 2 := fg_mk F (C := RX9) (T := TX9) (N := 33) in_X9 rfl (by decide) rfl (List.mem_cons_of_mem _ fk_X9_95)
  have p87 : FP Z 87 9 0 .int := fp_mk F (C := RX9) (T := TX9) (N := 33) in_X9 tyX9_ok nmX9 rfl (by decide) rfl (List.mem_cons_of_mem _ fk_X9_87) rfl (by decide +kernel)
  obtain ⟨⟨h60, ht, htk, hn, hop, hac, hun, hopk, ⟨u0, hu1, hu2, hu3⟩, C, hC, hCa⟩, ⟨hlk, hll, hlz⟩, hK, ⟨hln, hl40, htx⟩, L0, hL0⟩ := id hM
  have kM := kd_M
  have k479 := kd_479
  have k480 := kd_480
  have k481 := kd_481
  have k482 := kd_482
  have k483 := kd_483
  have k484 := kd_484
  have k485 := kd_485
  have k486 := kd_486
  have k487 := kd_487
  have k488 := kd_488
  have k489 := kd_489
  have k490 := kd_490
  have k491 := kd_491
  have k492 := kd_492
  have k493 := kd_493
  have k494 := kd_494
  have k495 := kd_495
  have k496 := kd_496
  have k497 := kd_497
  have k498 := kd_498
  have k499 := kd_499
  have k500 := kd_500
  have k501 := kd_501
  have k502 := kd_502
  have k503 := kd_503
  have hpl : (wiB (nI u) (nI 0) (nI 4) && wiB (nI la) (nI 0) (nI 2)) = true := by rw [wi_ok (by omega) (by omega) (by omega), wi_ok (by omega) (by omega) (by omega)]; rfl
  have hki := wi_ok (lo := 0) (c := k) (hi := 2) (by omega) (by omega) (by omega)
  refine jj_aload_n F dX9_erase_0 rfl ?_
  refine jj_iload_n F dX9_erase_1 rfl ?_
  refine jj_iload_n F dX9_erase_2 rfl ?_
  refine jj_callSi (na := 2) F c_X9_isPlace (gl_S mk_X9_187 vw_X9_isPlace) rfl rfl rfl (by decide +kernel) ⟨Nat.le_of_ble_eq_true rfl, Nat.le_of_ble_eq_true rfl⟩ rfl rfl (Nat.le_of_ble_eq_true rfl) ⟨Nat.le_of_ble_eq_true rfl, Nat.le_of_ble_eq_true rfl⟩ dX9_erase_3 (fun r3 M3 hp3 => ?_)
  obtain ⟨rfl, rfl⟩ := symm2 hp3
  refine jj_if_ne F (tgt := 13) dX9_erase_6 (by decide) (fun _ => ?_) (fun h9 => absurd h9 (by rw [hpl]; decide))
  refine jj_iload_n F dX9_erase_13 rfl ?_
  refine jj_iconst F (v := nI 0) dX9_erase_14 (by decide) ?_
  refine jj_iconst F (v := nI 2) dX9_erase_15 (by decide) ?_
  refine jj_callSi (na := 3) F c_X9_within (gl_S mk_X9_91 vw_X9_within) rfl rfl rfl (by decide +kernel) ⟨Nat.le_of_ble_eq_true rfl, Nat.le_of_ble_eq_true rfl⟩ rfl rfl (Nat.le_of_ble_eq_true rfl) ⟨Nat.le_of_ble_eq_true rfl, Nat.le_of_ble_eq_true rfl⟩ dX9_erase_16 (fun r16 M16 hp16 => ?_)
  obtain ⟨rfl, rfl⟩ := symm2 hp16
  refine jj_if_ne F (tgt := 26) dX9_erase_19 (by decide) (fun _ => ?_) (fun h9 => absurd h9 (by rw [hki]; decide))
  refine jj_aload_n F dX9_erase_26 rfl ?_
  refine jj_callVi (na := 0) F (c_X9_isPath (len := a_ln a) hln hl40) (gl_V mk_X9_190 vw_X9_isPath) rfl rfl rfl (by decide +kernel) ⟨Nat.le_of_ble_eq_true rfl, Nat.le_of_ble_eq_true rfl⟩ kM rfl rfl rfl (Nat.le_of_ble_eq_true rfl) ⟨Nat.le_of_ble_eq_true rfl, Nat.le_of_ble_eq_true rfl⟩ dX9_erase_27 (fun r27 MP hpP => ?_)
  obtain ⟨hpB, hpN, hpF⟩ := hpP
  obtain ⟨-, rd2, rd3⟩ := rd_path (a := a) (v := fun _ => 0) (fun j hj => htx j hj)
  rw [rd2, hok] at hpB
  subst hpB
  have hMP := RelM_num hM hpF
  have hnP : MP.1 478 2 = nI (a_n a) := hMP.1.2.2.2.1
  refine jj_if_eq F (tgt := 46) dX9_erase_30 (by decide) (fun h9 => absurd h9 (by decide)) (fun _ => ?_)
  refine jj_aload_n F dX9_erase_33 rfl ?_
  refine jj_geti F g95 (by assumption) (by rfl) dX9_erase_34 ?_
  rw [hnP]
  refine jj_bipush F (v := nI 60) dX9_erase_37 (by decide) ?_
  refine jj_icmp_ge F (tgt := 46) dX9_erase_39 (by decide) (fun h9 => absurd h9 (nI_ge (by omega) (by omega))) (fun _ => ?_)
  refine jj_iconst F (v := nI 0) dX9_erase_42 (by decide) ?_
  refine jj_goto F (tgt := 47) dX9_erase_43 (by decide) ?_
  refine jj_puti F p87 (by assumption) (by rfl) dX9_erase_47 ?_
  refine jj_aload_n F dX9_erase_50 rfl ?_
  refine jj_geti F g87 (by assumption) (by rfl) dX9_erase_51 ?_
  rw [thr_0]
  refine jj_if_le F (tgt := 59) dX9_erase_54 (by decide) (fun _ => ?_) (fun h9 => absurd (by decide) h9)
  refine jj_aload_n F dX9_erase_59 rfl ?_
  refine jj_callVv (na := 0) F (c_X9_layNow (RelM_thr hMP)) (gl_V mk_X9_201 vw_X9_layNow) rfl rfl rfl (by decide +kernel) ⟨Nat.le_of_ble_eq_true rfl, Nat.le_of_ble_eq_true rfl⟩ kM rfl rfl rfl (Nat.le_of_ble_eq_true rfl) ⟨Nat.le_of_ble_eq_true rfl, Nat.le_of_ble_eq_true rfl⟩ dX9_erase_60 (fun MN hpL0 => ?_)
  have hD9 := Ld_lay (RelM_thr hMP) hpL0
  have hTN := Ld_tops hD9
  obtain ⟨lc1, lc2⟩ := lay_c hpL0
  have hm4 : RelM (wA MN 500 (shF MN)) a W := RelM_500 hD9.1
  have hn4 : (wA MN 500 (shF MN)).1 478 2 = nI (a_n a) := hm4.1.2.2.2.1
  refine jj_aload_n F dX9_erase_63 rfl ?_
  refine jj_callVv (na := 0) F (c_X9_keepPicture hTN) (gl_V mk_X9_204 vw_X9_keepPicture) rfl rfl rfl (by decide +kernel) ⟨Nat.le_of_ble_eq_true rfl, Nat.le_of_ble_eq_true rfl⟩ kM rfl rfl rfl (Nat.le_of_ble_eq_true rfl) ⟨Nat.le_of_ble_eq_true rfl, Nat.le_of_ble_eq_true rfl⟩ dX9_erase_64 (fun M64 hp64 => ?_)
  obtain rfl := hp64.symm
  refine jj_aload_n F dX9_erase_67 rfl ?_
  obtain ⟨np1, np2, np3, np4, np5⟩ := num_path hpN rd3 hok
  have hC4 : (wA MN 500 (shF MN)).2 487 = lws C := by rw [wA_2, lc2 487 (by decide), wA_2, NumF_2 hpF]; exact hC
  have np2 : (wA MN 500 (shF MN)).1 478 28 = nI (2 * ((pvA a).1 / 2) + 1) := by rw [wA_n (by decide), lc1 478 (by decide) (by decide)]; exact np2
  have np3 : ∀ j, j ≤ 2 * ((pvA a).1 / 2) + 1 → (wA MN 500 (shF MN)).1 501 j = nI _ := fun j hj => by rw [wA_n (by decide), lc1 501 (by decide) (by decide)]; exact np3 j hj
  refine jj_callVv (na := 0) F (c_X9_layPath (M := wA MN 500 (shF MN)) (n := a_n a) (C := C) hn4 h60n hC4 np1 np2 np3 np4) (gl_V mk_X9_194 vw_X9_layPath) rfl rfl rfl (by decide +kernel) ⟨Nat.le_of_ble_eq_true rfl, Nat.le_of_ble_eq_true rfl⟩ kM rfl rfl rfl (Nat.le_of_ble_eq_true rfl) ⟨Nat.le_of_ble_eq_true rfl, Nat.le_of_ble_eq_true rfl⟩ dX9_erase_68 (fun ML hpL => ?_)
  rw [np5] at hpL
  have hML := RelM_lp hm4 hCa hpL
  have hPL : Pub M ML 0 := by
    obtain ⟨q1, q2⟩ := LoM_num hpF
    rw [hpL]
    exact ⟨fun x hx => by rw [wA_n (by omega), wL_1, wA_n (by omega), lc1 x (by omega) (by omega), wA_n (by omega)]; exact q1 x hx, by rw [wA_2, wL_n (by decide), wA_2, lc2 504 (by decide)]; exact q2, by rw [wA_1s, upd_o (by decide), wA_n (by decide), lc1 478 (by decide) (by decide)]; exact thr_0 _ _⟩
  have hL5 : ML.1 500 = shF MN := by rw [hpL, wA_n (by decide), wL_1, wA_s]
  refine jj_aload_n F dX9_erase_71 rfl ?_
  refine jj_iconst F (v := nI 2) dX9_erase_72 (by decide) ?_
  refine jj_iload_n F dX9_erase_73 rfl ?_
  refine jj_iload_n F dX9_erase_74 rfl ?_
  refine jj_iload_n F dX9_erase_75 rfl ?_
  refine jj_iconst F (v := nI 0) dX9_erase_76 (by decide) ?_
  refine jj_callVi (na := 5) F (c_X9_add (M := ML) (a := clbA a) (W := W) (C0 := C) (S := dwA a) (so := 2) (u := u) (la := la) (co := k) (fa := 0) hML h60n (by rw [hpL, wA_2, wL_s]; rfl) hCa hu (opOk_F (by omega) hu hla (by omega) (by omega) (by omega) (by omega))) (gl_V mk_X9_197 vw_X9_add) rfl rfl rfl (by decide +kernel) ⟨Nat.le_of_ble_eq_true rfl, Nat.le_of_ble_eq_true rfl⟩ kM rfl rfl rfl (Nat.le_of_ble_eq_true rfl) ⟨Nat.le_of_ble_eq_true rfl, Nat.le_of_ble_eq_true rfl⟩ dX9_erase_77 (fun r77 MA hpA => ?_)
  have hMA : RelM MA (stA a 2 u la k 0) W := hpA.2.1
  refine jj_pop F dX9_erase_80 rfl ?_
  refine jj_aload_n F dX9_erase_81 rfl ?_
  refine jj_callVv (na := 0) F (c_X9_layNow hMA) (gl_V mk_X9_201 vw_X9_layNow) rfl rfl rfl (by decide +kernel) ⟨Nat.le_of_ble_eq_true rfl, Nat.le_of_ble_eq_true rfl⟩ kM rfl rfl rfl (Nat.le_of_ble_eq_true rfl) ⟨Nat.le_of_ble_eq_true rfl, Nat.le_of_ble_eq_true rfl⟩ dX9_erase_82 (fun MB hpB9 => ?_)
  have hDB := Ld_lay hMA hpB9
  have hTB := Ld_tops hDB
  refine jj_aload_n F dX9_erase_85 rfl ?_
  refine jj_callVi (na := 0) F (c_X9_others hTB) (gl_V mk_X9_207 vw_X9_others) rfl rfl rfl (by decide +kernel) ⟨Nat.le_of_ble_eq_true rfl, Nat.le_of_ble_eq_true rfl⟩ kM rfl rfl rfl (Nat.le_of_ble_eq_true rfl) ⟨Nat.le_of_ble_eq_true rfl, Nat.le_of_ble_eq_true rfl⟩ dX9_erase_86 (fun r86 M86 hp86 => ?_)
  obtain ⟨rfl, rfl⟩ := symm2 hp86
  refine ret _ _ _ _ dX9_erase_89 (by first | rfl | exact nar_z (by first | exact Or.inl rfl | exact Or.inr rfl | exact b2i_01 _ | assumption)) ?_
  refine ⟨?_, hDB.1, Pub_A hPL hpA.2.2 (FrD_of (Fr_lay hpB9))⟩
  congr 1
  refine fb_ct_cong (fun c hc => ?_)
  rw [lay_500 hpB9, hpA.2.2.2.2.2, hL5, Ld_sh hD9 hc, Ld_sh hDB hc]
set_option maxRecDepth 100000 in
set_option maxHeartbeats 1000000 in
theorem m_fill_1a {l : Launch} {E : Ee} {M : Mm} {a : Ab} {W : Nat} (hM : RelM M a W) {x y z w : Int32} (hw : (wiB x (nI 0) (nI 4) && wiB y (nI 0) (nI 2)) = false) : CtI l E yX9_fill (.code yX9_fill cX9_fill 6 (some .int) :: gl) ({ frames := 5, cells := 0, slots := 0, locals := 115 } : Room) M [.ref (E.2.2 478), .int x, .int y, .int z, .int w] 0 0 (fun r M2 => r = nI 0 ∧ RelM M2 a W ∧ Pub M M2 1) := by
  refine ctI_of (L0 := [some (.ref (E.2.2 478)), some (.int x), some (.int y), some (.int z), some (.int w), none]) (by decide) rfl (Nat.le_of_ble_eq_true rfl) rfl ?_
  intro Z hl hE hnl F ret
  subst hE
  have in_X9 : ∀ w ∈ u_ws RX9 TX9 33, w ∈ (.code yX9_fill cX9_fill 6 (some .int) :: gl) := fun w h => List.mem_cons_of_mem _ (lay_X9 w h)
  have g35 : FG Z 35 9 12 := fg_mk F (C := RX9) (T := TX9) (N := 33) in_X9 rfl (by decide) rfl (List.mem_cons_of_mem _ fk_X9_35)
  have g81 : FG Z 81 9 30 := fg_mk F (C := RX9) (T := TX9) (N := 33) in_X9 rfl (by decide) rfl (List.mem_cons_of_mem _ fk_X9_81)
  have g87 : FG Z 87 9 0 := fg_mk F (C := RX9) (T := TX9) (N := 33) in_X9 rfl (by decide) rfl (List.mem_cons_of_mem _ fk_X9_87)
  have g95 : FG Z 95 9 2 := fg_mk F (C := RX9) (T := TX9) (N := 33) in_X9 rfl (by decide) rfl (List.mem_cons_of_mem _ fk_X9_95)
  have p87 : FP Z 87 9 0 .int := fp_mk F (C := RX9) (T := TX9) (N := 33) in_X9 tyX9_ok nmX9 rfl (by decide) rfl (List.mem_cons_of_mem _ fk_X9_87) rfl (by decide +kernel)
  obtain ⟨⟨h60, ht, htk, hn, hop, hac, hun, hopk, ⟨u0, hu1, hu2, hu3⟩, C, hC, hCa⟩, ⟨hlk, hll, hlz⟩, hK, ⟨hln, hl40, htx⟩, L0, hL0⟩ := id hM
  have kM := kd_M
  have k479 := kd_479
  have k480 := kd_480
  have k481 := kd_481
  have k482 := kd_482
  have k483 := kd_483
  have k484 := kd_484
  have k485 := kd_485
  have k486 := kd_486
  have k487 := kd_487
  have k488 := kd_488
  have k489 := kd_489
  have k490 := kd_490
  have k491 := kd_491
  have k492 := kd_492
  have k493 := kd_493
  have k494 := kd_494
  have k495 := kd_495
  have k496 := kd_496
  have k497 := kd_497
  have k498 := kd_498
  have k499 := kd_499
  have k500 := kd_500
  have k501 := kd_501
  have k502 := kd_502
  have k503 := kd_503
  refine jj_aload_n F dX9_fill_0 rfl ?_
  refine jj_iload_n F dX9_fill_1 rfl ?_
  refine jj_iload_n F dX9_fill_2 rfl ?_
  refine jj_callSi (na := 2) F c_X9_isPlace (gl_S mk_X9_187 vw_X9_isPlace) rfl rfl rfl (by decide +kernel) ⟨Nat.le_of_ble_eq_true rfl, Nat.le_of_ble_eq_true rfl⟩ rfl rfl (Nat.le_of_ble_eq_true rfl) ⟨Nat.le_of_ble_eq_true rfl, Nat.le_of_ble_eq_true rfl⟩ dX9_fill_3 (fun r3 M3 hp3 => ?_)
  obtain ⟨rfl, rfl⟩ := symm2 hp3
  refine jj_if_eq F (tgt := 17) dX9_fill_6 (by decide) (fun _ => ?_) (fun h9 => absurd (by rw [hw]; rfl) h9)
  refine jj_iconst F (v := nI 1) dX9_fill_17 (by decide) ?_
  refine jj_goto F (tgt := 49) dX9_fill_18 (by decide) ?_
  refine jj_puti F p87 (by assumption) (by rfl) dX9_fill_49 ?_
  refine jj_aload_n F dX9_fill_52 rfl ?_
  refine jj_geti F g87 (by assumption) (by rfl) dX9_fill_53 ?_
  rw [thr_0]
  refine jj_if_le F (tgt := 61) dX9_fill_56 (by decide) (fun h9 => absurd h9 (by decide)) (fun _ => ?_)
  refine jj_iconst F (v := nI 0) dX9_fill_59 (by decide) ?_
  refine ret _ _ _ _ dX9_fill_60 (by first | rfl | exact nar_z (by first | exact Or.inl rfl | exact Or.inr rfl | exact b2i_01 _ | assumption)) ?_
  exact ⟨rfl, RelM_thr hM, Pub_0⟩
set_option maxRecDepth 100000 in
set_option maxHeartbeats 1000000 in
theorem m_fill_1b {l : Launch} {E : Ee} {M : Mm} {a : Ab} {W : Nat} (hM : RelM M a W) {u la : Nat} (hu : u < 5) (hla : la < 3) {z w : Int32} (hy : wiB w (nI 0) (nI 255) = false) : CtI l E yX9_fill (.code yX9_fill cX9_fill 6 (some .int) :: gl) ({ frames := 5, cells := 0, slots := 0, locals := 115 } : Room) M [.ref (E.2.2 478), .int (nI u), .int (nI la), .int z, .int w] 0 0 (fun r M2 => r = nI 0 ∧ RelM M2 a W ∧ Pub M M2 1) := by
  refine ctI_of (L0 := [some (.ref (E.2.2 478)), some (.int (nI u)), some (.int (nI la)), some (.int z), some (.int w), none]) (by decide) rfl (Nat.le_of_ble_eq_true rfl) rfl ?_
  intro Z hl hE hnl F ret
  subst hE
  have in_X9 : ∀ w ∈ u_ws RX9 TX9 33, w ∈ (.code yX9_fill cX9_fill 6 (some .int) :: gl) := fun w h => List.mem_cons_of_mem _ (lay_X9 w h)
  have g35 : FG Z 35 9 12 := fg_mk F (C := RX9) (T := TX9) (N := 33) in_X9 rfl (by decide) rfl (List.mem_cons_of_mem _ fk_X9_35)
  have g81 : FG Z 81 9 30 := fg_mk F (C := RX9) (T := TX9) (N := 33) in_X9 rfl (by decide) rfl (List.mem_cons_of_mem _ fk_X9_81)
  have g87 : FG Z 87 9 0 := fg_mk F (C := RX9) (T := TX9) (N := 33) in_X9 rfl (by decide) rfl (List.mem_cons_of_mem _ fk_X9_87)
  have g95 : FG Z 95 9 2 := fg_mk F (C := RX9) (T := TX9) (N := 33) in_X9 rfl (by decide) rfl (List.mem_cons_of_mem _ fk_X9_95)
  have p87 : FP Z 87 9 0 .int := fp_mk F (C := RX9) (T := TX9) (N := 33) in_X9 tyX9_ok nmX9 rfl (by decide) rfl (List.mem_cons_of_mem _ fk_X9_87) rfl (by decide +kernel)
  obtain ⟨⟨h60, ht, htk, hn, hop, hac, hun, hopk, ⟨u0, hu1, hu2, hu3⟩, C, hC, hCa⟩, ⟨hlk, hll, hlz⟩, hK, ⟨hln, hl40, htx⟩, L0, hL0⟩ := id hM
  have kM := kd_M
  have k479 := kd_479
  have k480 := kd_480
  have k481 := kd_481
  have k482 := kd_482
  have k483 := kd_483
  have k484 := kd_484
  have k485 := kd_485
  have k486 := kd_486
  have k487 := kd_487
  have k488 := kd_488
  have k489 := kd_489
  have k490 := kd_490
  have k491 := kd_491
  have k492 := kd_492
  have k493 := kd_493
  have k494 := kd_494
  have k495 := kd_495
  have k496 := kd_496
  have k497 := kd_497
  have k498 := kd_498
  have k499 := kd_499
  have k500 := kd_500
  have k501 := kd_501
  have k502 := kd_502
  have k503 := kd_503
  have hpl : (wiB (nI u) (nI 0) (nI 4) && wiB (nI la) (nI 0) (nI 2)) = true := by rw [wi_ok (by omega) (by omega) (by omega), wi_ok (by omega) (by omega) (by omega)]; rfl
  refine jj_aload_n F dX9_fill_0 rfl ?_
  refine jj_iload_n F dX9_fill_1 rfl ?_
  refine jj_iload_n F dX9_fill_2 rfl ?_
  refine jj_callSi (na := 2) F c_X9_isPlace (gl_S mk_X9_187 vw_X9_isPlace) rfl rfl rfl (by decide +kernel) ⟨Nat.le_of_ble_eq_true rfl, Nat.le_of_ble_eq_true rfl⟩ rfl rfl (Nat.le_of_ble_eq_true rfl) ⟨Nat.le_of_ble_eq_true rfl, Nat.le_of_ble_eq_true rfl⟩ dX9_fill_3 (fun r3 M3 hp3 => ?_)
  obtain ⟨rfl, rfl⟩ := symm2 hp3
  refine jj_if_eq F (tgt := 17) dX9_fill_6 (by decide) (fun h9 => absurd h9 (by rw [hpl]; decide)) (fun _ => ?_)
  refine jj_iload F dX9_fill_9 rfl ?_
  refine jj_callSi (na := 1) F c_X9_isCell (gl_S mk_X9_223 vw_X9_isCell) rfl rfl rfl (by decide +kernel) ⟨Nat.le_of_ble_eq_true rfl, Nat.le_of_ble_eq_true rfl⟩ rfl rfl (Nat.le_of_ble_eq_true rfl) ⟨Nat.le_of_ble_eq_true rfl, Nat.le_of_ble_eq_true rfl⟩ dX9_fill_11 (fun r11 M11 hp11 => ?_)
  obtain ⟨rfl, rfl⟩ := symm2 hp11
  refine jj_if_ne F (tgt := 21) dX9_fill_14 (by decide) (fun h9 => absurd h9 (fun z => z (by rw [hy]; rfl))) (fun _ => ?_)
  refine jj_iconst F (v := nI 1) dX9_fill_17 (by decide) ?_
  refine jj_goto F (tgt := 49) dX9_fill_18 (by decide) ?_
  refine jj_puti F p87 (by assumption) (by rfl) dX9_fill_49 ?_
  refine jj_aload_n F dX9_fill_52 rfl ?_
  refine jj_geti F g87 (by assumption) (by rfl) dX9_fill_53 ?_
  rw [thr_0]
  refine jj_if_le F (tgt := 61) dX9_fill_56 (by decide) (fun h9 => absurd h9 (by decide)) (fun _ => ?_)
  refine jj_iconst F (v := nI 0) dX9_fill_59 (by decide) ?_
  refine ret _ _ _ _ dX9_fill_60 (by first | rfl | exact nar_z (by first | exact Or.inl rfl | exact Or.inr rfl | exact b2i_01 _ | assumption)) ?_
  exact ⟨rfl, RelM_thr hM, Pub_0⟩
set_option maxRecDepth 100000 in
set_option maxHeartbeats 1000000 in
theorem m_fill_2 {l : Launch} {E : Ee} {M : Mm} {a : Ab} {W : Nat} (hM : RelM M a W) {u la : Nat} (hu : u < 5) (hla : la < 3) {z : Int32} {c : Nat} (hc : c < 256) (hz : wiB z (nI 1) (nI 9) = false) : CtI l E yX9_fill (.code yX9_fill cX9_fill 6 (some .int) :: gl) ({ frames := 5, cells := 0, slots := 0, locals := 115 } : Room) M [.ref (E.2.2 478), .int (nI u), .int (nI la), .int z, .int (nI c)] 0 0 (fun r M2 => r = nI 0 ∧ RelM M2 a W ∧ Pub M M2 2) := by
  refine ctI_of (L0 := [some (.ref (E.2.2 478)), some (.int (nI u)), some (.int (nI la)), some (.int z), some (.int (nI c)), none]) (by decide) rfl (Nat.le_of_ble_eq_true rfl) rfl ?_
  intro Z hl hE hnl F ret
  subst hE
  have in_X9 : ∀ w ∈ u_ws RX9 TX9 33, w ∈ (.code yX9_fill cX9_fill 6 (some .int) :: gl) := fun w h => List.mem_cons_of_mem _ (lay_X9 w h)
  have g35 : FG Z 35 9 12 := fg_mk F (C := RX9) (T := TX9) (N := 33) in_X9 rfl (by decide) rfl (List.mem_cons_of_mem _ fk_X9_35)
  have g81 : FG Z 81 9 30 := fg_mk F (C := RX9) (T := TX9) (N := 33) in_X9 rfl (by decide) rfl (List.mem_cons_of_mem _ fk_X9_81)
  have g87 : FG Z 87 9 0 := fg_mk F (C := RX9) (T := TX9) (N := 33) in_X9 rfl (by decide) rfl (List.mem_cons_of_mem _ fk_X9_87)
  have g95 : FG Z 95 9 2 := fg_mk F (C := RX9) (T := TX9) (N := 33) in_X9 rfl (by decide) rfl (List.mem_cons_of_mem _ fk_X9_95)
  have p87 : FP Z 87 9 0 .int := fp_mk F (C := RX9) (T := TX9) (N := 33) in_X9 tyX9_ok nmX9 rfl (by decide) rfl (List.mem_cons_of_mem _ fk_X9_87) rfl (by decide +kernel)
  obtain ⟨⟨h60, ht, htk, hn, hop, hac, hun, hopk, ⟨u0, hu1, hu2, hu3⟩, C, hC, hCa⟩, ⟨hlk, hll, hlz⟩, hK, ⟨hln, hl40, htx⟩, L0, hL0⟩ := id hM
  have kM := kd_M
  have k479 := kd_479
  have k480 := kd_480
  have k481 := kd_481
  have k482 := kd_482
  have k483 := kd_483
  have k484 := kd_484
  have k485 := kd_485
  have k486 := kd_486
  have k487 := kd_487
  have k488 := kd_488
  have k489 := kd_489
  have k490 := kd_490
  have k491 := kd_491
  have k492 := kd_492
  have k493 := kd_493
  have k494 := kd_494
  have k495 := kd_495
  have k496 := kd_496
  have k497 := kd_497
  have k498 := kd_498
  have k499 := kd_499
  have k500 := kd_500
  have k501 := kd_501
  have k502 := kd_502
  have k503 := kd_503
  have hpl : (wiB (nI u) (nI 0) (nI 4) && wiB (nI la) (nI 0) (nI 2)) = true := by rw [wi_ok (by omega) (by omega) (by omega), wi_ok (by omega) (by omega) (by omega)]; rfl
  have hce := wi_ok (lo := 0) (c := c) (hi := 255) (by omega) (by omega) (by omega)
  refine jj_aload_n F dX9_fill_0 rfl ?_
  refine jj_iload_n F dX9_fill_1 rfl ?_
  refine jj_iload_n F dX9_fill_2 rfl ?_
  refine jj_callSi (na := 2) F c_X9_isPlace (gl_S mk_X9_187 vw_X9_isPlace) rfl rfl rfl (by decide +kernel) ⟨Nat.le_of_ble_eq_true rfl, Nat.le_of_ble_eq_true rfl⟩ rfl rfl (Nat.le_of_ble_eq_true rfl) ⟨Nat.le_of_ble_eq_true rfl, Nat.le_of_ble_eq_true rfl⟩ dX9_fill_3 (fun r3 M3 hp3 => ?_)
  obtain ⟨rfl, rfl⟩ := symm2 hp3
  refine jj_if_eq F (tgt := 17) dX9_fill_6 (by decide) (fun h9 => absurd h9 (by rw [hpl]; decide)) (fun _ => ?_)
  refine jj_iload F dX9_fill_9 rfl ?_
  refine jj_callSi (na := 1) F c_X9_isCell (gl_S mk_X9_223 vw_X9_isCell) rfl rfl rfl (by decide +kernel) ⟨Nat.le_of_ble_eq_true rfl, Nat.le_of_ble_eq_true rfl⟩ rfl rfl (Nat.le_of_ble_eq_true rfl) ⟨Nat.le_of_ble_eq_true rfl, Nat.le_of_ble_eq_true rfl⟩ dX9_fill_11 (fun r11 M11 hp11 => ?_)
  obtain ⟨rfl, rfl⟩ := symm2 hp11
  refine jj_if_ne F (tgt := 21) dX9_fill_14 (by decide) (fun _ => ?_) (fun h9 => absurd h9 (by rw [hce]; decide))
  refine jj_iload_n F dX9_fill_21 rfl ?_
  refine jj_iconst F (v := nI 1) dX9_fill_22 (by decide) ?_
  refine jj_bipush F (v := nI 9) dX9_fill_23 (by decide) ?_
  refine jj_callSi (na := 3) F c_X9_within (gl_S mk_X9_91 vw_X9_within) rfl rfl rfl (by decide +kernel) ⟨Nat.le_of_ble_eq_true rfl, Nat.le_of_ble_eq_true rfl⟩ rfl rfl (Nat.le_of_ble_eq_true rfl) ⟨Nat.le_of_ble_eq_true rfl, Nat.le_of_ble_eq_true rfl⟩ dX9_fill_25 (fun r25 M25 hp25 => ?_)
  obtain ⟨rfl, rfl⟩ := symm2 hp25
  refine jj_if_ne F (tgt := 35) dX9_fill_28 (by decide) (fun h9 => absurd h9 (fun z => z (by rw [hz]; rfl))) (fun _ => ?_)
  refine jj_iconst F (v := nI 2) dX9_fill_31 (by decide) ?_
  refine jj_goto F (tgt := 49) dX9_fill_32 (by decide) ?_
  refine jj_puti F p87 (by assumption) (by rfl) dX9_fill_49 ?_
  refine jj_aload_n F dX9_fill_52 rfl ?_
  refine jj_geti F g87 (by assumption) (by rfl) dX9_fill_53 ?_
  rw [thr_0]
  refine jj_if_le F (tgt := 61) dX9_fill_56 (by decide) (fun h9 => absurd h9 (by decide)) (fun _ => ?_)
  refine jj_iconst F (v := nI 0) dX9_fill_59 (by decide) ?_
  refine ret _ _ _ _ dX9_fill_60 (by first | rfl | exact nar_z (by first | exact Or.inl rfl | exact Or.inr rfl | exact b2i_01 _ | assumption)) ?_
  exact ⟨rfl, RelM_thr hM, Pub_0⟩
set_option maxRecDepth 100000 in
set_option maxHeartbeats 1000000 in
theorem m_fill_3 {l : Launch} {E : Ee} {M : Mm} {a : Ab} {W : Nat} (hM : RelM M a W) {u la : Nat} (hu : u < 5) (hla : la < 3) {co c : Nat} (hc : c < 256) (h1 : 1 ≤ co) (h9 : co ≤ 9) (hful : a_n a = 60) : CtI l E yX9_fill (.code yX9_fill cX9_fill 6 (some .int) :: gl) ({ frames := 5, cells := 0, slots := 0, locals := 115 } : Room) M [.ref (E.2.2 478), .int (nI u), .int (nI la), .int (nI co), .int (nI c)] 0 0 (fun r M2 => r = nI 0 ∧ RelM M2 a W ∧ Pub M M2 3) := by
  refine ctI_of (L0 := [some (.ref (E.2.2 478)), some (.int (nI u)), some (.int (nI la)), some (.int (nI co)), some (.int (nI c)), none]) (by decide) rfl (Nat.le_of_ble_eq_true rfl) rfl ?_
  intro Z hl hE hnl F ret
  subst hE
  have in_X9 : ∀ w ∈ u_ws RX9 TX9 33, w ∈ (.code yX9_fill cX9_fill 6 (some .int) :: gl) := fun w h => List.mem_cons_of_mem _ (lay_X9 w h)
  have g35 : FG Z 35 9 12 := fg_mk F (C := RX9) (T := TX9) (N := 33) in_X9 rfl (by decide) rfl (List.mem_cons_of_mem _ fk_X9_35)
  have g81 : FG Z 81 9 30 := fg_mk F (C := RX9) (T := TX9) (N := 33) in_X9 rfl (by decide) rfl (List.mem_cons_of_mem _ fk_X9_81)
  have g87 : FG Z 87 9 0 := fg_mk F (C := RX9) (T := TX9) (N := 33) in_X9 rfl (by decide) rfl (List.mem_cons_of_mem _ fk_X9_87)
  have g95 : FG Z 95 9 2 := fg_mk F (C := RX9) (T := TX9) (N := 33) in_X9 rfl (by decide) rfl (List.mem_cons_of_mem _ fk_X9_95)
  have p87 : FP Z 87 9 0 .int := fp_mk F (C := RX9) (T := TX9) (N := 33) in_X9 tyX9_ok nmX9 rfl (by decide) rfl (List.mem_cons_of_mem _ fk_X9_87) rfl (by decide +kernel)
  obtain ⟨⟨h60, ht, htk, hn, hop, hac, hun, hopk, ⟨u0, hu1, hu2, hu3⟩, C, hC, hCa⟩, ⟨hlk, hll, hlz⟩, hK, ⟨hln, hl40, htx⟩, L0, hL0⟩ := id hM
  have kM := kd_M
  have k479 := kd_479
  have k480 := kd_480
  have k481 := kd_481
  have k482 := kd_482
  have k483 := kd_483
  have k484 := kd_484
  have k485 := kd_485
  have k486 := kd_486
  have k487 := kd_487
  have k488 := kd_488
  have k489 := kd_489
  have k490 := kd_490
  have k491 := kd_491
  have k492 := kd_492
  have k493 := kd_493
  have k494 := kd_494
  have k495 := kd_495
  have k496 := kd_496
  have k497 := kd_497
  have k498 := kd_498
  have k499 := kd_499
  have k500 := kd_500
  have k501 := kd_501
  have k502 := kd_502
  have k503 := kd_503
  have hpl : (wiB (nI u) (nI 0) (nI 4) && wiB (nI la) (nI 0) (nI 2)) = true := by rw [wi_ok (by omega) (by omega) (by omega), wi_ok (by omega) (by omega) (by omega)]; rfl
  have hce := wi_ok (lo := 0) (c := c) (hi := 255) (by omega) (by omega) (by omega)
  have hco := wi_ok (lo := 1) (c := co) (hi := 9) (by omega) (by omega) (by omega)
  refine jj_aload_n F dX9_fill_0 rfl ?_
  refine jj_iload_n F dX9_fill_1 rfl ?_
  refine jj_iload_n F dX9_fill_2 rfl ?_
  refine jj_callSi (na := 2) F c_X9_isPlace (gl_S mk_X9_187 vw_X9_isPlace) rfl rfl rfl (by decide +kernel) ⟨Nat.le_of_ble_eq_true rfl, Nat.le_of_ble_eq_true rfl⟩ rfl rfl (Nat.le_of_ble_eq_true rfl) ⟨Nat.le_of_ble_eq_true rfl, Nat.le_of_ble_eq_true rfl⟩ dX9_fill_3 (fun r3 M3 hp3 => ?_)
  obtain ⟨rfl, rfl⟩ := symm2 hp3
  refine jj_if_eq F (tgt := 17) dX9_fill_6 (by decide) (fun h9 => absurd h9 (by rw [hpl]; decide)) (fun _ => ?_)
  refine jj_iload F dX9_fill_9 rfl ?_
  refine jj_callSi (na := 1) F c_X9_isCell (gl_S mk_X9_223 vw_X9_isCell) rfl rfl rfl (by decide +kernel) ⟨Nat.le_of_ble_eq_true rfl, Nat.le_of_ble_eq_true rfl⟩ rfl rfl (Nat.le_of_ble_eq_true rfl) ⟨Nat.le_of_ble_eq_true rfl, Nat.le_of_ble_eq_true rfl⟩ dX9_fill_11 (fun r11 M11 hp11 => ?_)
  obtain ⟨rfl, rfl⟩ := symm2 hp11
  refine jj_if_ne F (tgt := 21) dX9_fill_14 (by decide) (fun _ => ?_) (fun h9 => absurd h9 (by rw [hce]; decide))
  refine jj_iload_n F dX9_fill_21 rfl ?_
  refine jj_iconst F (v := nI 1) dX9_fill_22 (by decide) ?_
  refine jj_bipush F (v := nI 9) dX9_fill_23 (by decide) ?_
  refine jj_callSi (na := 3) F c_X9_within (gl_S mk_X9_91 vw_X9_within) rfl rfl rfl (by decide +kernel) ⟨Nat.le_of_ble_eq_true rfl, Nat.le_of_ble_eq_true rfl⟩ rfl rfl (Nat.le_of_ble_eq_true rfl) ⟨Nat.le_of_ble_eq_true rfl, Nat.le_of_ble_eq_true rfl⟩ dX9_fill_25 (fun r25 M25 hp25 => ?_)
  obtain ⟨rfl, rfl⟩ := symm2 hp25
  refine jj_if_ne F (tgt := 35) dX9_fill_28 (by decide) (fun _ => ?_) (fun h9 => absurd h9 (by rw [hco]; decide))
  refine jj_aload_n F dX9_fill_35 rfl ?_
  refine jj_geti F g95 (by assumption) (by rfl) dX9_fill_36 ?_
  rw [hn]
  refine jj_bipush F (v := nI 60) dX9_fill_39 (by decide) ?_
  refine jj_icmp_ge F (tgt := 48) dX9_fill_41 (by decide) (fun _ => ?_) (fun h9 => absurd (nI_le (a := 60) (by omega) (by omega)) h9)
  refine jj_iconst F (v := nI 3) dX9_fill_48 (by decide) ?_
  refine jj_puti F p87 (by assumption) (by rfl) dX9_fill_49 ?_
  refine jj_aload_n F dX9_fill_52 rfl ?_
  refine jj_geti F g87 (by assumption) (by rfl) dX9_fill_53 ?_
  rw [thr_0]
  refine jj_if_le F (tgt := 61) dX9_fill_56 (by decide) (fun h9 => absurd h9 (by decide)) (fun _ => ?_)
  refine jj_iconst F (v := nI 0) dX9_fill_59 (by decide) ?_
  refine ret _ _ _ _ dX9_fill_60 (by first | rfl | exact nar_z (by first | exact Or.inl rfl | exact Or.inr rfl | exact b2i_01 _ | assumption)) ?_
  exact ⟨rfl, RelM_thr hM, Pub_0⟩
theorem lws_c256 {C : Nat → Nat → Bool} {n : Nat} {R S : Nat → Bool} (h : ∀ x, x < 256 → R x = S x) : lws (setC C n R) = lws (setC C n S) := by
  funext q
  unfold lws
  by_cases e : q / 4 = n
  · rw [e, setC_n, setC_n]
    exact lw_cong (fun x hx => h _ (by omega))
  · rw [setC_o e, setC_o e]
theorem wL_same2 {M : Mm} {j k : Nat} {g : Nat → Int64} (h : k ≠ j) : wL (wL M j g) k (M.2 k) = wL M j g := by
  have := wL_same (wL M j g) k
  rw [wL_n h] at this
  exact this
set_option maxRecDepth 100000 in
set_option maxHeartbeats 1000000 in
theorem m_fill_0 {l : Launch} {E : Ee} {M : Mm} {a : Ab} {W : Nat} (hM : RelM M a W) {u la : Nat} (hu : u < 5) (hla : la < 3) {co c : Nat} (hc : c < 256) (h1 : 1 ≤ co) (h9 : co ≤ 9) (h60n : a_n a < 60) : CtI l E yX9_fill (.code yX9_fill cX9_fill 6 (some .int) :: gl) ({ frames := 5, cells := 0, slots := 0, locals := 115 } : Room) M [.ref (E.2.2 478), .int (nI u), .int (nI la), .int (nI co), .int (nI c)] 0 0 (fun r M2 => r = nI (csz (fun d => fiA a c d && !clo (a_lk a) u d)) ∧ RelM M2 (flA a u la co c) W ∧ Pub M M2 0) := by
  refine ctI_of (L0 := [some (.ref (E.2.2 478)), some (.int (nI u)), some (.int (nI la)), some (.int (nI co)), some (.int (nI c)), none]) (by decide) rfl (Nat.le_of_ble_eq_true rfl) rfl ?_
  intro Z hl hE hnl F ret
  subst hE
  have in_X9 : ∀ w ∈ u_ws RX9 TX9 33, w ∈ (.code yX9_fill cX9_fill 6 (some .int) :: gl) := fun w h => List.mem_cons_of_mem _ (lay_X9 w h)
  have g35 : FG Z 35 9 12 := fg_mk F (C := RX9) (T := TX9) (N := 33) in_X9 rfl (by decide) rfl (List.mem_cons_of_mem _ fk_X9_35)
  have g81 : FG Z 81 9 30 := fg_mk F (C := RX9) (T := TX9) (N := 33) in_X9 rfl (by decide) rfl (List.mem_cons_of_mem _ fk_X9_81)
  have g87 : FG Z 87 9 0 := fg_mk F (C := RX9) (T := TX9) (N := 33) in_X9 rfl (by decide) rfl (List.mem_cons_of_mem _ fk_X9_87)
  have g95 : FG Z 95 9 2 := fg_mk F (C := RX9) (T := TX9) (N := 33) in_X9 rfl (by decide) rfl (List.mem_cons_of_mem _ fk_X9_95)
  have p87 : FP Z 87 9 0 .int := fp_mk F (C := RX9) (T := TX9) (N := 33) in_X9 tyX9_ok nmX9 rfl (by decide) rfl (List.mem_cons_of_mem _ fk_X9_87) rfl (by decide +kernel)
  obtain ⟨⟨h60, ht, htk, hn, hop, hac, hun, hopk, ⟨u0, hu1, hu2, hu3⟩, C, hC, hCa⟩, ⟨hlk, hll, hlz⟩, hK, ⟨hln, hl40, htx⟩, L0, hL0⟩ := id hM
  have kM := kd_M
  have k479 := kd_479
  have k480 := kd_480
  have k481 := kd_481
  have k482 := kd_482
  have k483 := kd_483
  have k484 := kd_484
  have k485 := kd_485
  have k486 := kd_486
  have k487 := kd_487
  have k488 := kd_488
  have k489 := kd_489
  have k490 := kd_490
  have k491 := kd_491
  have k492 := kd_492
  have k493 := kd_493
  have k494 := kd_494
  have k495 := kd_495
  have k496 := kd_496
  have k497 := kd_497
  have k498 := kd_498
  have k499 := kd_499
  have k500 := kd_500
  have k501 := kd_501
  have k502 := kd_502
  have k503 := kd_503
  have hpl : (wiB (nI u) (nI 0) (nI 4) && wiB (nI la) (nI 0) (nI 2)) = true := by rw [wi_ok (by omega) (by omega) (by omega), wi_ok (by omega) (by omega) (by omega)]; rfl
  have hce := wi_ok (lo := 0) (c := c) (hi := 255) (by omega) (by omega) (by omega)
  have hco := wi_ok (lo := 1) (c := co) (hi := 9) (by omega) (by omega) (by omega)
  refine jj_aload_n F dX9_fill_0 rfl ?_
  refine jj_iload_n F dX9_fill_1 rfl ?_
  refine jj_iload_n F dX9_fill_2 rfl ?_
  refine jj_callSi (na := 2) F c_X9_isPlace (gl_S mk_X9_187 vw_X9_isPlace) rfl rfl rfl (by decide +kernel) ⟨Nat.le_of_ble_eq_true rfl, Nat.le_of_ble_eq_true rfl⟩ rfl rfl (Nat.le_of_ble_eq_true rfl) ⟨Nat.le_of_ble_eq_true rfl, Nat.le_of_ble_eq_true rfl⟩ dX9_fill_3 (fun r3 M3 hp3 => ?_)
  obtain ⟨rfl, rfl⟩ := symm2 hp3
  refine jj_if_eq F (tgt := 17) dX9_fill_6 (by decide) (fun h9 => absurd h9 (by rw [hpl]; decide)) (fun _ => ?_)
  refine jj_iload F dX9_fill_9 rfl ?_
  refine jj_callSi (na := 1) F c_X9_isCell (gl_S mk_X9_223 vw_X9_isCell) rfl rfl rfl (by decide +kernel) ⟨Nat.le_of_ble_eq_true rfl, Nat.le_of_ble_eq_true rfl⟩ rfl rfl (Nat.le_of_ble_eq_true rfl) ⟨Nat.le_of_ble_eq_true rfl, Nat.le_of_ble_eq_true rfl⟩ dX9_fill_11 (fun r11 M11 hp11 => ?_)
  obtain ⟨rfl, rfl⟩ := symm2 hp11
  refine jj_if_ne F (tgt := 21) dX9_fill_14 (by decide) (fun _ => ?_) (fun h9 => absurd h9 (by rw [hce]; decide))
  refine jj_iload_n F dX9_fill_21 rfl ?_
  refine jj_iconst F (v := nI 1) dX9_fill_22 (by decide) ?_
  refine jj_bipush F (v := nI 9) dX9_fill_23 (by decide) ?_
  refine jj_callSi (na := 3) F c_X9_within (gl_S mk_X9_91 vw_X9_within) rfl rfl rfl (by decide +kernel) ⟨Nat.le_of_ble_eq_true rfl, Nat.le_of_ble_eq_true rfl⟩ rfl rfl (Nat.le_of_ble_eq_true rfl) ⟨Nat.le_of_ble_eq_true rfl, Nat.le_of_ble_eq_true rfl⟩ dX9_fill_25 (fun r25 M25 hp25 => ?_)
  obtain ⟨rfl, rfl⟩ := symm2 hp25
  refine jj_if_ne F (tgt := 35) dX9_fill_28 (by decide) (fun _ => ?_) (fun h9 => absurd h9 (by rw [hco]; decide))
  refine jj_aload_n F dX9_fill_35 rfl ?_
  refine jj_geti F g95 (by assumption) (by rfl) dX9_fill_36 ?_
  rw [hn]
  refine jj_bipush F (v := nI 60) dX9_fill_39 (by decide) ?_
  refine jj_icmp_ge F (tgt := 48) dX9_fill_41 (by decide) (fun h9 => absurd h9 (nI_ge (by omega) (by omega))) (fun _ => ?_)
  refine jj_iconst F (v := nI 0) dX9_fill_44 (by decide) ?_
  refine jj_goto F (tgt := 49) dX9_fill_45 (by decide) ?_
  refine jj_puti F p87 (by assumption) (by rfl) dX9_fill_49 ?_
  refine jj_aload_n F dX9_fill_52 rfl ?_
  refine jj_geti F g87 (by assumption) (by rfl) dX9_fill_53 ?_
  rw [thr_0]
  refine jj_if_le F (tgt := 61) dX9_fill_56 (by decide) (fun _ => ?_) (fun h9 => absurd (by decide) h9)
  refine jj_aload_n F dX9_fill_61 rfl ?_
  refine jj_callVv (na := 0) F (c_X9_layNow (RelM_thr hM)) (gl_V mk_X9_201 vw_X9_layNow) rfl rfl rfl (by decide +kernel) ⟨Nat.le_of_ble_eq_true rfl, Nat.le_of_ble_eq_true rfl⟩ kM rfl rfl rfl (Nat.le_of_ble_eq_true rfl) ⟨Nat.le_of_ble_eq_true rfl, Nat.le_of_ble_eq_true rfl⟩ dX9_fill_62 (fun MN hpN => ?_)
  have hD9 := Ld_lay (RelM_thr hM) hpN
  have hTN := Ld_tops hD9
  obtain ⟨lc1, lc2⟩ := lay_c hpN
  have hnN : MN.1 478 2 = nI (a_n a) := hD9.1.1.2.2.2.1
  have hCN : MN.2 487 = lws C := by rw [lc2 487 (by decide)]; exact hC
  refine jj_aload_n F dX9_fill_65 rfl ?_
  refine jj_iload F dX9_fill_66 rfl ?_
  refine jj_iconst F (v := -1) dX9_fill_68 (by decide) ?_
  refine jj_callVv (na := 2) F (c_layRegionN (M := MN) (f := c) (S := fun e => decide (e < 256) && decide (clA a e = clA a c)) hTN hc (fun e he => by rw [Ld_sh hD9 he, Ld_sh hD9 hc]; simp [he])) (gl_V mk_X9_226 vw_X9_layRegion) rfl rfl rfl (by decide +kernel) ⟨Nat.le_of_ble_eq_true rfl, Nat.le_of_ble_eq_true rfl⟩ kM rfl rfl rfl (Nat.le_of_ble_eq_true rfl) ⟨Nat.le_of_ble_eq_true rfl, Nat.le_of_ble_eq_true rfl⟩ dX9_fill_69 (fun MR hpR => ?_)
  obtain ⟨R, rfl, hR9⟩ := hpR
  have hRf : ∀ x, x < 256 → R x = fiA a c x := fun x hx => by rw [Bool.eq_iff_iff, fiA_t]; exact hR9 x hx
  refine jj_iconst F (v := nI 0) dX9_fill_72 (by decide) ?_
  refine jj_istore F dX9_fill_73 (by rw [hnl]; decide) ?_
  dsimp only [lq_st, lq_clr, lq_no]
  have lo : ∀ i, i ≤ 4 → JJ Z (0, 0) (wL (wL MN 502 (lwOf R)) 487 (mixW (a_n a) i C (setC C (a_n a) R))) 75 [some (.ref ((zE Z).2.2 478)), some (.int (nI u)), some (.int (nI la)), some (.int (nI co)), some (.int (nI c)), some (.int (nI i))] [] := by
    refine jj_loop (4) ?_ ?_
    · rw [mixW_4 (fun j hj => (setC_o hj).symm), lws_c256 hRf]
      generalize hME0 : wL (wL MN 502 (lwOf R)) 487 (lws (setC C (a_n a) (fiA a c))) = ME
      have hCE : ME.2 487 = lws (setC C (a_n a) (fiA a c)) := by rw [← hME0, wL_s]
      have hME : RelM ME a W := by
        obtain ⟨⟨o1, o2, o3, o4, o5, o6, o7, o8, ou, -⟩, hl, hk, htt, L, hL⟩ := hD9.1
        rw [← hME0]
        exact ⟨⟨o1, o2, o3, o4, o5, o6, o7, o8, ou, _, by rw [wL_s], fun i hi c hc => by rw [setC_o (by omega)]; exact hCa i hi c hc⟩, hl, fun m hm => by rw [wL_n (by decide), wL_n (by decide)]; exact hk m hm, htt, L, by rw [wL_n (by decide), wL_n (by decide)]; exact hL⟩
      have hPE : Pub M ME 0 := by
        rw [← hME0]
        exact ⟨fun x hx => by rw [wL_1, wL_1, lc1 x (by omega) (by omega), wA_n (by omega)], by rw [wL_n (by decide), wL_n (by decide), lc2 504 (by decide), wA_2], by rw [wL_1, wL_1, lc1 478 (by decide) (by decide)]; exact thr_0 _ _⟩
      refine jj_iload F dX9_fill_75 rfl ?_
      refine jj_iconst F (v := nI 4) dX9_fill_77 (by decide) ?_
      refine jj_icmp_ge F (tgt := 108) dX9_fill_78 (by decide) (fun _ => ?_) (fun h9 => absurd (nI_le (by omega) (by omega)) h9)
      refine jj_aload_n F dX9_fill_108 rfl ?_
      refine jj_iconst F (v := nI 1) dX9_fill_109 (by decide) ?_
      refine jj_iload_n F dX9_fill_110 rfl ?_
      refine jj_iload_n F dX9_fill_111 rfl ?_
      refine jj_iload_n F dX9_fill_112 rfl ?_
      refine jj_iconst F (v := nI 0) dX9_fill_113 (by decide) ?_
      refine jj_callVi (na := 5) F (c_X9_add (M := ME) (a := a) (W := W) (C0 := C) (S := fiA a c) (so := 1) (u := u) (la := la) (co := co) (fa := 0) hME h60n hCE hCa hu (opOk_F (by omega) hu hla (by omega) (by omega) (by omega) (by omega))) (gl_V mk_X9_197 vw_X9_add) rfl rfl rfl (by decide +kernel) ⟨Nat.le_of_ble_eq_true rfl, Nat.le_of_ble_eq_true rfl⟩ kM rfl rfl rfl (Nat.le_of_ble_eq_true rfl) ⟨Nat.le_of_ble_eq_true rfl, Nat.le_of_ble_eq_true rfl⟩ dX9_fill_114 (fun r114 MA hpA => ?_)
      refine ret _ _ _ _ dX9_fill_117 (by first | rfl | exact nar_z (by first | exact Or.inl rfl | exact Or.inr rfl | exact b2i_01 _ | assumption)) ?_
      exact ⟨hpA.1, hpA.2.1, Pub_A hPE hpA.2.2 (FrD_rf _)⟩
    · intro i hi ih
      refine jj_iload F dX9_fill_75 rfl ?_
      refine jj_iconst F (v := nI 4) dX9_fill_77 (by decide) ?_
      refine jj_icmp_ge F (tgt := 108) dX9_fill_78 (by decide) (fun h9 => absurd h9 (nI_ge (by omega) (by omega))) (fun _ => ?_)
      refine jj_aload_n F dX9_fill_81 rfl ?_
      refine jj_getr F g35 (by assumption) (by rfl) dX9_fill_82 ?_
      refine jj_iconst F (v := nI 4) dX9_fill_85 (by decide) ?_
      refine jj_aload_n F dX9_fill_86 rfl ?_
      refine jj_geti F g95 (by assumption) (by rfl) dX9_fill_87 ?_
      refine jj_topi (show _ = nI (a_n a) from hnN) ?_
      refine jj_imul F dX9_fill_90 ?_
      rw [pk_mul]
      refine jj_iload F dX9_fill_91 rfl ?_
      refine jj_iadd F dX9_fill_93 ?_
      rw [nI_add]
      refine jj_aload_n F dX9_fill_94 rfl ?_
      refine jj_getr F g81 (by assumption) (by rfl) dX9_fill_95 ?_
      refine jj_iload F dX9_fill_98 rfl ?_
      refine jj_lald F (by assumption) rfl (by omega) dX9_fill_100 ?_
      rw [wL_n (by decide), wL_s]
      refine jj_last F (by assumption) rfl (by omega) dX9_fill_101 ?_
      refine jj_iinc F dX9_fill_102 rfl (by first | exact iinc1 _ | rfl) (by rw [hnl]; decide) ?_
      dsimp only [lq_st, lq_clr, lq_no]
      refine jj_goto F (tgt := 75) dX9_fill_105 (by decide) ?_
      rw [wL_wL, wL_s, mixW_s hi ?_]
      · exact ih
      · rw [lws_w _ hi, setC_n]
  refine jj_eqM ?_ (lo 0 (by omega))
  rw [mixW_0, ← hCN]
  exact (wL_same2 (by decide)).symm
