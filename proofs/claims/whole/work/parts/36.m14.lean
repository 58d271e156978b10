theorem wi_ok {c lo hi : Nat} (h1 : lo ≤ c) (h2 : c ≤ hi) (h3 : hi < 2 ^ 31) : wiB (nI c) (nI lo) (nI hi) = true := by
  rw [wi_n (by omega) (by omega) h3]
  simp [h1, h2]
theorem wi_ex {x : Int32} {lo hi : Nat} (h3 : hi < 2 ^ 30) (h4 : lo < 2 ^ 31) (h : wiB x (nI lo) (nI hi) = true) : ∃ c, lo ≤ c ∧ c ≤ hi ∧ x = nI c := by
  unfold wiB at h
  simp only [Bool.and_eq_true, decide_eq_true_eq] at h
  obtain ⟨a, b⟩ := h
  have a2 := a
  have b2 := b
  rw [Int32.le_iff_toInt_le, nI_toInt h4] at a2
  rw [Int32.le_iff_toInt_le, nI_toInt (by omega)] at b2
  obtain ⟨c, hc, e⟩ := i32_ix (x := x) (n := hi + 1) (by
    rw [Int32.lt_iff_toInt_lt]
    show ¬ x.toInt < 0
    omega) (by
    rw [Int32.le_iff_toInt_le, nI_toInt (by omega)]
    omega) (by omega)
  subst e
  rw [nI_leI h4 (by omega)] at a
  exact ⟨c, a, by omega, rfl⟩
def LoM (M M1 : Mm) : Prop := (∀ x, x < 478 → M1.1 x = M.1 x) ∧ M1.2 504 = M.2 504
theorem Pub_tr {M M1 M2 : Mm} {e : Nat} (h : LoM M M1) (h2 : FrD (thr M1 (nI e)) M2) : Pub M M2 e := by
  obtain ⟨a, b, c⟩ := Pub_thr h2
  exact ⟨fun x hx => (a x hx).trans (h.1 x hx), b.trans h.2, c⟩
theorem LoM_num {M M1 : Mm} (h : NumF M M1) : LoM M M1 := ⟨fun x hx => by obtain ⟨y, g, rfl⟩ := h; rw [wA_n (by omega), wA_n (by omega)], by rw [NumF_2 h]⟩
theorem Pub_A {M M1 M2 M3 : Mm} {e : Nat} (h : Pub M M1 e) (h2 : FrA M1 M2) (h3 : FrD M2 M3) : Pub M M3 e := ⟨fun x hx => by rw [h3.1 x (by omega), h2.1 x hx]; exact h.1 x hx, by rw [h3.2, h2.2.1]; exact h.2.1, by rw [h3.1 478 (by omega), h2.2.2.1]; exact h.2.2⟩
theorem isop_t {x : Int32} {n : Nat} (hn : n ≤ 60) (h : wiB x (nI 0) (nI n - nI 1) = true) : ∃ k, k < n ∧ x = nI k := by
  rcases Nat.eq_zero_or_pos n with q | q
  · subst q
    unfold wiB at h
    simp only [Bool.and_eq_true, decide_eq_true_eq] at h
    have a := h.1
    have b := h.2
    rw [Int32.le_iff_toInt_le] at a b
    have e1 : (nI 0).toInt = 0 := rfl
    have e2 : (nI 0 - nI 1).toInt = -1 := by decide
    rw [e1] at a
    rw [e2] at b
    omega
  · rw [pk_sub q] at h
    obtain ⟨c, -, h2, h3⟩ := wi_ex (by omega) (by omega) h
    exact ⟨c, by omega, h3⟩
theorem isop_k {k n : Nat} (hk : k < n) (hn : n ≤ 60) : wiB (nI k) (nI 0) (nI n - nI 1) = true := by
  rw [pk_sub (by omega)]
  exact wi_ok (by omega) (by omega) (by omega)
set_option maxRecDepth 100000 in
set_option maxHeartbeats 1000000 in
theorem m_color_1 {l : Launch} {E : Ee} {M : Mm} {a : Ab} {W : Nat} (hM : RelM M a W) {x : Int32} (hw : wiB x (nI 0) (nI 255) = false) : CtI l E yX9_color (.code yX9_color cX9_color 2 (some .int) :: gl) ({ frames := 5, cells := 0, slots := 0, locals := 115 } : Room) M [.ref (E.2.2 478), .int x] 0 0 (fun r M2 => r = nI 0 ∧ RelM M2 a W ∧ Pub M M2 1) := by
  refine ctI_of (L0 := [some (.ref (E.2.2 478)), some (.int x)]) (by decide) rfl (Nat.le_of_ble_eq_true rfl) rfl ?_
  intro Z hl hE hnl F ret
  subst hE
  have in_X9 : ∀ w ∈ u_ws RX9 TX9 33, w ∈ (.code yX9_color cX9_color 2 (some .int) :: gl) := fun w h => List.mem_cons_of_mem _ (lay_X9 w h)
  have g87 : FG Z 87 9 0 := fg_mk F (C := RX9) (T := TX9) (N := 33) in_X9 rfl (by decide) rfl (List.mem_cons_of_mem _ fk_X9_87)
  have p87 : FP Z 87 9 0 .int := fp_mk F (C := RX9) (T := TX9) (N := 33) in_X9 tyX9_ok nmX9 rfl (by decide) rfl (List.mem_cons_of_mem _ fk_X9_87) rfl (by decide +kernel)
  obtain ⟨⟨h60, ht, htk, hn, hop, hac, hun, hopk, ⟨u0, hu1, hu2, hu3⟩, C, hC, hCa⟩, ⟨hlk, hll, hlz⟩, hK, ⟨hln, hl40, htx⟩, L0, hL0⟩ := id hM
  have kM := kd_M
  have k479 := kd_479
  have k480 := kd_480
  have k481 := kd_481
  have k482 := kd_482
  have k483 := kd_483
  have k484 := kd_484
  have k485 := kd_485
  have k486 := kd_486
  have k487 := kd_487
  have k488 := kd_488
  have k489 := kd_489
  have k490 := kd_490
  have k491 := kd_491
  have k492 := kd_492
  have k493 := kd_493
  have k494 := kd_494
  have k495 := kd_495
  have k496 := kd_496
  have k497 := kd_497
  have k498 := kd_498
  have k499 := kd_499
  have k500 := kd_500
  have k501 := kd_501
  have k502 := kd_502
  have k503 := kd_503
  refine jj_aload_n F dX9_color_0 rfl ?_
  refine jj_iload_n F dX9_color_1 rfl ?_
  refine jj_callSi (na := 1) F c_X9_isCell (gl_S mk_X9_223 vw_X9_isCell) rfl rfl rfl (by decide +kernel) ⟨Nat.le_of_ble_eq_true rfl, Nat.le_of_ble_eq_true rfl⟩ rfl rfl (Nat.le_of_ble_eq_true rfl) ⟨Nat.le_of_ble_eq_true rfl, Nat.le_of_ble_eq_true rfl⟩ dX9_color_2 (fun r2 M2 hp2 => ?_)
  obtain ⟨rfl, rfl⟩ := symm2 hp2
  refine jj_if_eq F (tgt := 12) dX9_color_5 (by decide) (fun _ => ?_) (fun h9 => absurd (by rw [hw]; rfl) h9)
  refine jj_iconst F (v := nI 1) dX9_color_12 (by decide) ?_
  refine jj_puti F p87 (by assumption) (by rfl) dX9_color_13 ?_
  refine jj_aload_n F dX9_color_16 rfl ?_
  refine jj_geti F g87 (by assumption) (by rfl) dX9_color_17 ?_
  rw [thr_0]
  refine jj_if_le F (tgt := 25) dX9_color_20 (by decide) (fun h9 => absurd h9 (by decide)) (fun _ => ?_)
  refine jj_iconst F (v := nI 0) dX9_color_23 (by decide) ?_
  refine ret _ _ _ _ dX9_color_24 (by first | rfl | exact nar_z (by first | exact Or.inl rfl | exact Or.inr rfl | exact b2i_01 _ | assumption)) ?_
  exact ⟨rfl, RelM_thr hM, Pub_0⟩
set_option maxRecDepth 100000 in
set_option maxHeartbeats 1000000 in
theorem m_color_0 {l : Launch} {E : Ee} {M : Mm} {a : Ab} {W : Nat} (hM : RelM M a W) {c : Nat} (hc : c < 256) : CtI l E yX9_color (.code yX9_color cX9_color 2 (some .int) :: gl) ({ frames := 5, cells := 0, slots := 0, locals := 115 } : Room) M [.ref (E.2.2 478), .int (nI c)] 0 0 (fun r M2 => r = clA a c ∧ RelM M2 a W ∧ Pub M M2 0) := by
  refine ctI_of (L0 := [some (.ref (E.2.2 478)), some (.int (nI c))]) (by decide) rfl (Nat.le_of_ble_eq_true rfl) rfl ?_
  intro Z hl hE hnl F ret
  subst hE
  have in_X9 : ∀ w ∈ u_ws RX9 TX9 33, w ∈ (.code yX9_color cX9_color 2 (some .int) :: gl) := fun w h => List.mem_cons_of_mem _ (lay_X9 w h)
  have g87 : FG Z 87 9 0 := fg_mk F (C := RX9) (T := TX9) (N := 33) in_X9 rfl (by decide) rfl (List.mem_cons_of_mem _ fk_X9_87)
  have p87 : FP Z 87 9 0 .int := fp_mk F (C := RX9) (T := TX9) (N := 33) in_X9 tyX9_ok nmX9 rfl (by decide) rfl (List.mem_cons_of_mem _ fk_X9_87) rfl (by decide +kernel)
  obtain ⟨⟨h60, ht, htk, hn, hop, hac, hun, hopk, ⟨u0, hu1, hu2, hu3⟩, C, hC, hCa⟩, ⟨hlk, hll, hlz⟩, hK, ⟨hln, hl40, htx⟩, L0, hL0⟩ := id hM
  have kM := kd_M
  have k479 := kd_479
  have k480 := kd_480
  have k481 := kd_481
  have k482 := kd_482
  have k483 := kd_483
  have k484 := kd_484
  have k485 := kd_485
  have k486 := kd_486
  have k487 := kd_487
  have k488 := kd_488
  have k489 := kd_489
  have k490 := kd_490
  have k491 := kd_491
  have k492 := kd_492
  have k493 := kd_493
  have k494 := kd_494
  have k495 := kd_495
  have k496 := kd_496
  have k497 := kd_497
  have k498 := kd_498
  have k499 := kd_499
  have k500 := kd_500
  have k501 := kd_501
  have k502 := kd_502
  have k503 := kd_503
  have hw := wi_ok (lo := 0) (c := c) (hi := 255) (by omega) (by omega) (by omega)
  refine jj_aload_n F dX9_color_0 rfl ?_
  refine jj_iload_n F dX9_color_1 rfl ?_
  refine jj_callSi (na := 1) F c_X9_isCell (gl_S mk_X9_223 vw_X9_isCell) rfl rfl rfl (by decide +kernel) ⟨Nat.le_of_ble_eq_true rfl, Nat.le_of_ble_eq_true rfl⟩ rfl rfl (Nat.le_of_ble_eq_true rfl) ⟨Nat.le_of_ble_eq_true rfl, Nat.le_of_ble_eq_true rfl⟩ dX9_color_2 (fun r2 M2 hp2 => ?_)
  obtain ⟨rfl, rfl⟩ := symm2 hp2
  refine jj_if_eq F (tgt := 12) dX9_color_5 (by decide) (fun h9 => absurd h9 (by rw [hw]; decide)) (fun _ => ?_)
  refine jj_iconst F (v := nI 0) dX9_color_8 (by decide) ?_
  refine jj_goto F (tgt := 13) dX9_color_9 (by decide) ?_
  refine jj_puti F p87 (by assumption) (by rfl) dX9_color_13 ?_
  refine jj_aload_n F dX9_color_16 rfl ?_
  refine jj_geti F g87 (by assumption) (by rfl) dX9_color_17 ?_
  rw [thr_0]
  refine jj_if_le F (tgt := 25) dX9_color_20 (by decide) (fun _ => ?_) (fun h9 => absurd (by decide) h9)
  refine jj_aload_n F dX9_color_25 rfl ?_
  refine jj_callVv (na := 0) F (c_X9_layNow (RelM_thr hM)) (gl_V mk_X9_201 vw_X9_layNow) rfl rfl rfl (by decide +kernel) ⟨Nat.le_of_ble_eq_true rfl, Nat.le_of_ble_eq_true rfl⟩ kM rfl rfl rfl (Nat.le_of_ble_eq_true rfl) ⟨Nat.le_of_ble_eq_true rfl, Nat.le_of_ble_eq_true rfl⟩ dX9_color_26 (fun MN hpN => ?_)
  have hD9 := Ld_lay (RelM_thr hM) hpN
  have hTN := Ld_tops hD9
  refine jj_aload_n F dX9_color_29 rfl ?_
  refine jj_iload_n F dX9_color_30 rfl ?_
  refine jj_callVi (na := 1) F (c_X9_shown hTN hc) (gl_V mk_X9_132 vw_X9_shown) rfl rfl rfl (by decide +kernel) ⟨Nat.le_of_ble_eq_true rfl, Nat.le_of_ble_eq_true rfl⟩ kM rfl rfl rfl (Nat.le_of_ble_eq_true rfl) ⟨Nat.le_of_ble_eq_true rfl, Nat.le_of_ble_eq_true rfl⟩ dX9_color_31 (fun r31 M31 hp31 => ?_)
  obtain ⟨rfl, rfl⟩ := symm2 hp31
  refine ret _ _ _ _ dX9_color_34 (by first | rfl | exact nar_z (by first | exact Or.inl rfl | exact Or.inr rfl | exact b2i_01 _ | assumption)) ?_
  refine ⟨Ld_sh hD9 hc, hD9.1, Pub_thr (FrD_of (Fr_lay hpN))⟩
set_option maxRecDepth 100000 in
set_option maxHeartbeats 1000000 in
theorem m_top_1 {l : Launch} {E : Ee} {M : Mm} {a : Ab} {W : Nat} (hM : RelM M a W) {x : Int32} (hw : wiB x (nI 0) (nI 255) = false) : CtI l E yX9_top (.code yX9_top cX9_top 2 (some .int) :: gl) ({ frames := 5, cells := 0, slots := 0, locals := 115 } : Room) M [.ref (E.2.2 478), .int x] 0 0 (fun r M2 => r = nI 0 ∧ RelM M2 a W ∧ Pub M M2 1) := by
  refine ctI_of (L0 := [some (.ref (E.2.2 478)), some (.int x)]) (by decide) rfl (Nat.le_of_ble_eq_true rfl) rfl ?_
  intro Z hl hE hnl F ret
  subst hE
  have in_X9 : ∀ w ∈ u_ws RX9 TX9 33, w ∈ (.code yX9_top cX9_top 2 (some .int) :: gl) := fun w h => List.mem_cons_of_mem _ (lay_X9 w h)
  have g72 : FG Z 72 9 26 := fg_mk F (C := RX9) (T := TX9) (N := 33) in_X9 rfl (by decide) rfl (List.mem_cons_of_mem _ fk_X9_72)
  have g87 : FG Z 87 9 0 := fg_mk F (C := RX9) (T := TX9) (N := 33) in_X9 rfl (by decide) rfl (List.mem_cons_of_mem _ fk_X9_87)
  have p87 : FP Z 87 9 0 .int := fp_mk F (C := RX9) (T := TX9) (N := 33) in_X9 tyX9_ok nmX9 rfl (by decide) rfl (List.mem_cons_of_mem _ fk_X9_87) rfl (by decide +kernel)
  obtain ⟨⟨h60, ht, htk, hn, hop, hac, hun, hopk, ⟨u0, hu1, hu2, hu3⟩, C, hC, hCa⟩, ⟨hlk, hll, hlz⟩, hK, ⟨hln, hl40, htx⟩, L0, hL0⟩ := id hM
  have kM := kd_M
  have k479 := kd_479
  have k480 := kd_480
  have k481 := kd_481
  have k482 := kd_482
  have k483 := kd_483
  have k484 := kd_484
  have k485 := kd_485
  have k486 := kd_486
  have k487 := kd_487
  have k488 := kd_488
  have k489 := kd_489
  have k490 := kd_490
  have k491 := kd_491
  have k492 := kd_492
  have k493 := kd_493
  have k494 := kd_494
  have k495 := kd_495
  have k496 := kd_496
  have k497 := kd_497
  have k498 := kd_498
  have k499 := kd_499
  have k500 := kd_500
  have k501 := kd_501
  have k502 := kd_502
  have k503 := kd_503
  refine jj_aload_n F dX9_top_0 rfl ?_
  refine jj_iload_n F dX9_top_1 rfl ?_
  refine jj_callSi (na := 1) F c_X9_isCell (gl_S mk_X9_223 vw_X9_isCell) rfl rfl rfl (by decide +kernel) ⟨Nat.le_of_ble_eq_true rfl, Nat.le_of_ble_eq_true rfl⟩ rfl rfl (Nat.le_of_ble_eq_true rfl) ⟨Nat.le_of_ble_eq_true rfl, Nat.le_of_ble_eq_true rfl⟩ dX9_top_2 (fun r2 M2 hp2 => ?_)
  obtain ⟨rfl, rfl⟩ := symm2 hp2
  refine jj_if_eq F (tgt := 12) dX9_top_5 (by decide) (fun _ => ?_) (fun h9 => absurd (by rw [hw]; rfl) h9)
  refine jj_iconst F (v := nI 1) dX9_top_12 (by decide) ?_
  refine jj_puti F p87 (by assumption) (by rfl) dX9_top_13 ?_
  refine jj_aload_n F dX9_top_16 rfl ?_
  refine jj_geti F g87 (by assumption) (by rfl) dX9_top_17 ?_
  rw [thr_0]
  refine jj_if_le F (tgt := 25) dX9_top_20 (by decide) (fun h9 => absurd h9 (by decide)) (fun _ => ?_)
  refine jj_iconst F (v := nI 0) dX9_top_23 (by decide) ?_
  refine ret _ _ _ _ dX9_top_24 (by first | rfl | exact nar_z (by first | exact Or.inl rfl | exact Or.inr rfl | exact b2i_01 _ | assumption)) ?_
  exact ⟨rfl, RelM_thr hM, Pub_0⟩
set_option maxRecDepth 100000 in
set_option maxHeartbeats 1000000 in
theorem m_top_0 {l : Launch} {E : Ee} {M : Mm} {a : Ab} {W : Nat} (hM : RelM M a W) {c : Nat} (hc : c < 256) : CtI l E yX9_top (.code yX9_top cX9_top 2 (some .int) :: gl) ({ frames := 5, cells := 0, slots := 0, locals := 115 } : Room) M [.ref (E.2.2 478), .int (nI c)] 0 0 (fun r M2 => r = tpA a c ∧ RelM M2 a W ∧ Pub M M2 0) := by
  refine ctI_of (L0 := [some (.ref (E.2.2 478)), some (.int (nI c))]) (by decide) rfl (Nat.le_of_ble_eq_true rfl) rfl ?_
  intro Z hl hE hnl F ret
  subst hE
  have in_X9 : ∀ w ∈ u_ws RX9 TX9 33, w ∈ (.code yX9_top cX9_top 2 (some .int) :: gl) := fun w h => List.mem_cons_of_mem _ (lay_X9 w h)
  have g72 : FG Z 72 9 26 := fg_mk F (C := RX9) (T := TX9) (N := 33) in_X9 rfl (by decide) rfl (List.mem_cons_of_mem _ fk_X9_72)
  have g87 : FG Z 87 9 0 := fg_mk F (C := RX9) (T := TX9) (N := 33) in_X9 rfl (by decide) rfl (List.mem_cons_of_mem _ fk_X9_87)
  have p87 : FP Z 87 9 0 .int := fp_mk F (C := RX9) (T := TX9) (N := 33) in_X9 tyX9_ok nmX9 rfl (by decide) rfl (List.mem_cons_of_mem _ fk_X9_87) rfl (by decide +kernel)
  obtain ⟨⟨h60, ht, htk, hn, hop, hac, hun, hopk, ⟨u0, hu1, hu2, hu3⟩, C, hC, hCa⟩, ⟨hlk, hll, hlz⟩, hK, ⟨hln, hl40, htx⟩, L0, hL0⟩ := id hM
  have kM := kd_M
  have k479 := kd_479
  have k480 := kd_480
  have k481 := kd_481
  have k482 := kd_482
  have k483 := kd_483
  have k484 := kd_484
  have k485 := kd_485
  have k486 := kd_486
  have k487 := kd_487
  have k488 := kd_488
  have k489 := kd_489
  have k490 := kd_490
  have k491 := kd_491
  have k492 := kd_492
  have k493 := kd_493
  have k494 := kd_494
  have k495 := kd_495
  have k496 := kd_496
  have k497 := kd_497
  have k498 := kd_498
  have k499 := kd_499
  have k500 := kd_500
  have k501 := kd_501
  have k502 := kd_502
  have k503 := kd_503
  have hw := wi_ok (lo := 0) (c := c) (hi := 255) (by omega) (by omega) (by omega)
  refine jj_aload_n F dX9_top_0 rfl ?_
  refine jj_iload_n F dX9_top_1 rfl ?_
  refine jj_callSi (na := 1) F c_X9_isCell (gl_S mk_X9_223 vw_X9_isCell) rfl rfl rfl (by decide +kernel) ⟨Nat.le_of_ble_eq_true rfl, Nat.le_of_ble_eq_true rfl⟩ rfl rfl (Nat.le_of_ble_eq_true rfl) ⟨Nat.le_of_ble_eq_true rfl, Nat.le_of_ble_eq_true rfl⟩ dX9_top_2 (fun r2 M2 hp2 => ?_)
  obtain ⟨rfl, rfl⟩ := symm2 hp2
  refine jj_if_eq F (tgt := 12) dX9_top_5 (by decide) (fun h9 => absurd h9 (by rw [hw]; decide)) (fun _ => ?_)
  refine jj_iconst F (v := nI 0) dX9_top_8 (by decide) ?_
  refine jj_goto F (tgt := 13) dX9_top_9 (by decide) ?_
  refine jj_puti F p87 (by assumption) (by rfl) dX9_top_13 ?_
  refine jj_aload_n F dX9_top_16 rfl ?_
  refine jj_geti F g87 (by assumption) (by rfl) dX9_top_17 ?_
  rw [thr_0]
  refine jj_if_le F (tgt := 25) dX9_top_20 (by decide) (fun _ => ?_) (fun h9 => absurd (by decide) h9)
  refine jj_aload_n F dX9_top_25 rfl ?_
  refine jj_callVv (na := 0) F (c_X9_layNow (RelM_thr hM)) (gl_V mk_X9_201 vw_X9_layNow) rfl rfl rfl (by decide +kernel) ⟨Nat.le_of_ble_eq_true rfl, Nat.le_of_ble_eq_true rfl⟩ kM rfl rfl rfl (Nat.le_of_ble_eq_true rfl) ⟨Nat.le_of_ble_eq_true rfl, Nat.le_of_ble_eq_true rfl⟩ dX9_top_26 (fun MN hpN => ?_)
  have hD9 := Ld_lay (RelM_thr hM) hpN
  have hTN := Ld_tops hD9
  refine jj_aload_n F dX9_top_29 rfl ?_
  refine jj_getr F g72 (by assumption) (by rfl) dX9_top_30 ?_
  refine jj_iload_n F dX9_top_33 rfl ?_
  refine jj_iald F (by assumption) rfl (by omega) dX9_top_34 ?_
  refine ret _ _ _ _ dX9_top_35 (by first | rfl | exact nar_z (by first | exact Or.inl rfl | exact Or.inr rfl | exact b2i_01 _ | assumption)) ?_
  refine ⟨Ld_top hD9 hc, hD9.1, Pub_thr (FrD_of (Fr_lay hpN))⟩
set_option maxRecDepth 100000 in
set_option maxHeartbeats 1000000 in
theorem m_colorLater_1 {l : Launch} {E : Ee} {M : Mm} {a : Ab} {W : Nat} (hM : RelM M a W) {x y : Int32} (hw : wiB x (nI 0) (nI 255) = false) : CtI l E yX9_colorLater (.code yX9_colorLater cX9_colorLater 3 (some .int) :: gl) ({ frames := 4, cells := 0, slots := 0, locals := 95 } : Room) M [.ref (E.2.2 478), .int x, .int y] 0 0 (fun r M2 => r = nI 0 ∧ RelM M2 a W ∧ Pub M M2 1) := by
  refine ctI_of (L0 := [some (.ref (E.2.2 478)), some (.int x), some (.int y)]) (by decide) rfl (Nat.le_of_ble_eq_true rfl) rfl ?_
  intro Z hl hE hnl F ret
  subst hE
  have in_X9 : ∀ w ∈ u_ws RX9 TX9 33, w ∈ (.code yX9_colorLater cX9_colorLater 3 (some .int) :: gl) := fun w h => List.mem_cons_of_mem _ (lay_X9 w h)
  have g87 : FG Z 87 9 0 := fg_mk F (C := RX9) (T := TX9) (N := 33) in_X9 rfl (by decide) rfl (List.mem_cons_of_mem _ fk_X9_87)
  have g126 : FG Z 126 9 1 := fg_mk F (C := RX9) (T := TX9) (N := 33) in_X9 rfl (by decide) rfl (List.mem_cons_of_mem _ fk_X9_126)
  have p87 : FP Z 87 9 0 .int := fp_mk F (C := RX9) (T := TX9) (N := 33) in_X9 tyX9_ok nmX9 rfl (by decide) rfl (List.mem_cons_of_mem _ fk_X9_87) rfl (by decide +kernel)
  obtain ⟨⟨h60, ht, htk, hn, hop, hac, hun, hopk, ⟨u0, hu1, hu2, hu3⟩, C, hC, hCa⟩, ⟨hlk, hll, hlz⟩, hK, ⟨hln, hl40, htx⟩, L0, hL0⟩ := id hM
  have kM := kd_M
  have k479 := kd_479
  have k480 := kd_480
  have k481 := kd_481
  have k482 := kd_482
  have k483 := kd_483
  have k484 := kd_484
  have k485 := kd_485
  have k486 := kd_486
  have k487 := kd_487
  have k488 := kd_488
  have k489 := kd_489
  have k490 := kd_490
  have k491 := kd_491
  have k492 := kd_492
  have k493 := kd_493
  have k494 := kd_494
  have k495 := kd_495
  have k496 := kd_496
  have k497 := kd_497
  have k498 := kd_498
  have k499 := kd_499
  have k500 := kd_500
  have k501 := kd_501
  have k502 := kd_502
  have k503 := kd_503
  refine jj_aload_n F dX9_colorLater_0 rfl ?_
  refine jj_iload_n F dX9_colorLater_1 rfl ?_
  refine jj_callSi (na := 1) F c_X9_isCell (gl_S mk_X9_223 vw_X9_isCell) rfl rfl rfl (by decide +kernel) ⟨Nat.le_of_ble_eq_true rfl, Nat.le_of_ble_eq_true rfl⟩ rfl rfl (Nat.le_of_ble_eq_true rfl) ⟨Nat.le_of_ble_eq_true rfl, Nat.le_of_ble_eq_true rfl⟩ dX9_colorLater_2 (fun r2 M2 hp2 => ?_)
  obtain ⟨rfl, rfl⟩ := symm2 hp2
  refine jj_if_ne F (tgt := 12) dX9_colorLater_5 (by decide) (fun h9 => absurd h9 (fun z => z (by rw [hw]; rfl))) (fun _ => ?_)
  refine jj_iconst F (v := nI 1) dX9_colorLater_8 (by decide) ?_
  refine jj_goto F (tgt := 28) dX9_colorLater_9 (by decide) ?_
  refine jj_puti F p87 (by assumption) (by rfl) dX9_colorLater_28 ?_
  refine jj_aload_n F dX9_colorLater_31 rfl ?_
  refine jj_geti F g87 (by assumption) (by rfl) dX9_colorLater_32 ?_
  rw [thr_0]
  refine jj_if_le F (tgt := 40) dX9_colorLater_35 (by decide) (fun h9 => absurd h9 (by decide)) (fun _ => ?_)
  refine jj_iconst F (v := nI 0) dX9_colorLater_38 (by decide) ?_
  refine ret _ _ _ _ dX9_colorLater_39 (by first | rfl | exact nar_z (by first | exact Or.inl rfl | exact Or.inr rfl | exact b2i_01 _ | assumption)) ?_
  exact ⟨rfl, RelM_thr hM, Pub_0⟩
set_option maxRecDepth 100000 in
set_option maxHeartbeats 1000000 in
theorem m_colorLater_2 {l : Launch} {E : Ee} {M : Mm} {a : Ab} {W : Nat} (hM : RelM M a W) {c : Nat} {y : Int32} (hc : c < 256) (hy : wiB y (nI 0) (nI 1000) = false) : CtI l E yX9_colorLater (.code yX9_colorLater cX9_colorLater 3 (some .int) :: gl) ({ frames := 4, cells := 0, slots := 0, locals := 95 } : Room) M [.ref (E.2.2 478), .int (nI c), .int y] 0 0 (fun r M2 => r = nI 0 ∧ RelM M2 a W ∧ Pub M M2 2) := by
  refine ctI_of (L0 := [some (.ref (E.2.2 478)), some (.int (nI c)), some (.int y)]) (by decide) rfl (Nat.le_of_ble_eq_true rfl) rfl ?_
  intro Z hl hE hnl F ret
  subst hE
  have in_X9 : ∀ w ∈ u_ws RX9 TX9 33, w ∈ (.code yX9_colorLater cX9_colorLater 3 (some .int) :: gl) := fun w h => List.mem_cons_of_mem _ (lay_X9 w h)
  have g87 : FG Z 87 9 0 := fg_mk F (C := RX9) (T := TX9) (N := 33) in_X9 rfl (by decide) rfl (List.mem_cons_of_mem _ fk_X9_87)
  have g126 : FG Z 126 9 1 := fg_mk F (C := RX9) (T := TX9) (N := 33) in_X9 rfl (by decide) rfl (List.mem_cons_of_mem _ fk_X9_126)
  have p87 : FP Z 87 9 0 .int := fp_mk F (C := RX9) (T := TX9) (N := 33) in_X9 tyX9_ok nmX9 rfl (by decide) rfl (List.mem_cons_of_mem _ fk_X9_87) rfl (by decide +kernel)
  obtain ⟨⟨h60, ht, htk, hn, hop, hac, hun, hopk, ⟨u0, hu1, hu2, hu3⟩, C, hC, hCa⟩, ⟨hlk, hll, hlz⟩, hK, ⟨hln, hl40, htx⟩, L0, hL0⟩ := id hM
  have kM := kd_M
  have k479 := kd_479
  have k480 := kd_480
  have k481 := kd_481
  have k482 := kd_482
  have k483 := kd_483
  have k484 := kd_484
  have k485 := kd_485
  have k486 := kd_486
  have k487 := kd_487
  have k488 := kd_488
  have k489 := kd_489
  have k490 := kd_490
  have k491 := kd_491
  have k492 := kd_492
  have k493 := kd_493
  have k494 := kd_494
  have k495 := kd_495
  have k496 := kd_496
  have k497 := kd_497
  have k498 := kd_498
  have k499 := kd_499
  have k500 := kd_500
  have k501 := kd_501
  have k502 := kd_502
  have k503 := kd_503
  have hw := wi_ok (lo := 0) (c := c) (hi := 255) (by omega) (by omega) (by omega)
  refine jj_aload_n F dX9_colorLater_0 rfl ?_
  refine jj_iload_n F dX9_colorLater_1 rfl ?_
  refine jj_callSi (na := 1) F c_X9_isCell (gl_S mk_X9_223 vw_X9_isCell) rfl rfl rfl (by decide +kernel) ⟨Nat.le_of_ble_eq_true rfl, Nat.le_of_ble_eq_true rfl⟩ rfl rfl (Nat.le_of_ble_eq_true rfl) ⟨Nat.le_of_ble_eq_true rfl, Nat.le_of_ble_eq_true rfl⟩ dX9_colorLater_2 (fun r2 M2 hp2 => ?_)
  obtain ⟨rfl, rfl⟩ := symm2 hp2
  refine jj_if_ne F (tgt := 12) dX9_colorLater_5 (by decide) (fun _ => ?_) (fun h9 => absurd h9 (by rw [hw]; decide))
  refine jj_iload_n F dX9_colorLater_12 rfl ?_
  refine jj_iconst F (v := nI 0) dX9_colorLater_13 (by decide) ?_
  refine jj_sipush F (v := nI 1000) dX9_colorLater_14 (by decide) ?_
  refine jj_callSi (na := 3) F c_X9_within (gl_S mk_X9_91 vw_X9_within) rfl rfl rfl (by decide +kernel) ⟨Nat.le_of_ble_eq_true rfl, Nat.le_of_ble_eq_true rfl⟩ rfl rfl (Nat.le_of_ble_eq_true rfl) ⟨Nat.le_of_ble_eq_true rfl, Nat.le_of_ble_eq_true rfl⟩ dX9_colorLater_17 (fun r17 M17 hp17 => ?_)
  obtain ⟨rfl, rfl⟩ := symm2 hp17
  refine jj_if_eq F (tgt := 27) dX9_colorLater_20 (by decide) (fun _ => ?_) (fun h9 => absurd (by rw [hy]; rfl) h9)
  refine jj_iconst F (v := nI 2) dX9_colorLater_27 (by decide) ?_
  refine jj_puti F p87 (by assumption) (by rfl) dX9_colorLater_28 ?_
  refine jj_aload_n F dX9_colorLater_31 rfl ?_
  refine jj_geti F g87 (by assumption) (by rfl) dX9_colorLater_32 ?_
  rw [thr_0]
  refine jj_if_le F (tgt := 40) dX9_colorLater_35 (by decide) (fun h9 => absurd h9 (by decide)) (fun _ => ?_)
  refine jj_iconst F (v := nI 0) dX9_colorLater_38 (by decide) ?_
  refine ret _ _ _ _ dX9_colorLater_39 (by first | rfl | exact nar_z (by first | exact Or.inl rfl | exact Or.inr rfl | exact b2i_01 _ | assumption)) ?_
  exact ⟨rfl, RelM_thr hM, Pub_0⟩
set_option maxRecDepth 100000 in
set_option maxHeartbeats 1000000 in
theorem m_colorLater_0 {l : Launch} {E : Ee} {M : Mm} {a : Ab} {W : Nat} (hM : RelM M a W) {c k : Nat} (hc : c < 256) (hk : k ≤ 1000) : CtI l E yX9_colorLater (.code yX9_colorLater cX9_colorLater 3 (some .int) :: gl) ({ frames := 4, cells := 0, slots := 0, locals := 95 } : Room) M [.ref (E.2.2 478), .int (nI c), .int (nI k)] 0 0 (fun r M2 => r = colA (a_op a) (a_C a) (a_ac a) (a_n a) (nI (a_t a + k)) c ∧ RelM M2 a W ∧ Pub M M2 0) := by
  refine ctI_of (L0 := [some (.ref (E.2.2 478)), some (.int (nI c)), some (.int (nI k))]) (by decide) rfl (Nat.le_of_ble_eq_true rfl) rfl ?_
  intro Z hl hE hnl F ret
  subst hE
  have in_X9 : ∀ w ∈ u_ws RX9 TX9 33, w ∈ (.code yX9_colorLater cX9_colorLater 3 (some .int) :: gl) := fun w h => List.mem_cons_of_mem _ (lay_X9 w h)
  have g87 : FG Z 87 9 0 := fg_mk F (C := RX9) (T := TX9) (N := 33) in_X9 rfl (by decide) rfl (List.mem_cons_of_mem _ fk_X9_87)
  have g126 : FG Z 126 9 1 := fg_mk F (C := RX9) (T := TX9) (N := 33) in_X9 rfl (by decide) rfl (List.mem_cons_of_mem _ fk_X9_126)
  have p87 : FP Z 87 9 0 .int := fp_mk F (C := RX9) (T := TX9) (N := 33) in_X9 tyX9_ok nmX9 rfl (by decide) rfl (List.mem_cons_of_mem _ fk_X9_87) rfl (by decide +kernel)
  obtain ⟨⟨h60, ht, htk, hn, hop, hac, hun, hopk, ⟨u0, hu1, hu2, hu3⟩, C, hC, hCa⟩, ⟨hlk, hll, hlz⟩, hK, ⟨hln, hl40, htx⟩, L0, hL0⟩ := id hM
  have kM := kd_M
  have k479 := kd_479
  have k480 := kd_480
  have k481 := kd_481
  have k482 := kd_482
  have k483 := kd_483
  have k484 := kd_484
  have k485 := kd_485
  have k486 := kd_486
  have k487 := kd_487
  have k488 := kd_488
  have k489 := kd_489
  have k490 := kd_490
  have k491 := kd_491
  have k492 := kd_492
  have k493 := kd_493
  have k494 := kd_494
  have k495 := kd_495
  have k496 := kd_496
  have k497 := kd_497
  have k498 := kd_498
  have k499 := kd_499
  have k500 := kd_500
  have k501 := kd_501
  have k502 := kd_502
  have k503 := kd_503
  have hw := wi_ok (lo := 0) (c := c) (hi := 255) (by omega) (by omega) (by omega)
  have hy := wi_ok (lo := 0) (c := k) (hi := 1000) (by omega) (by omega) (by omega)
  refine jj_aload_n F dX9_colorLater_0 rfl ?_
  refine jj_iload_n F dX9_colorLater_1 rfl ?_
  refine jj_callSi (na := 1) F c_X9_isCell (gl_S mk_X9_223 vw_X9_isCell) rfl rfl rfl (by decide +kernel) ⟨Nat.le_of_ble_eq_true rfl, Nat.le_of_ble_eq_true rfl⟩ rfl rfl (Nat.le_of_ble_eq_true rfl) ⟨Nat.le_of_ble_eq_true rfl, Nat.le_of_ble_eq_true rfl⟩ dX9_colorLater_2 (fun r2 M2 hp2 => ?_)
  obtain ⟨rfl, rfl⟩ := symm2 hp2
  refine jj_if_ne F (tgt := 12) dX9_colorLater_5 (by decide) (fun _ => ?_) (fun h9 => absurd h9 (by rw [hw]; decide))
  refine jj_iload_n F dX9_colorLater_12 rfl ?_
  refine jj_iconst F (v := nI 0) dX9_colorLater_13 (by decide) ?_
  refine jj_sipush F (v := nI 1000) dX9_colorLater_14 (by decide) ?_
  refine jj_callSi (na := 3) F c_X9_within (gl_S mk_X9_91 vw_X9_within) rfl rfl rfl (by decide +kernel) ⟨Nat.le_of_ble_eq_true rfl, Nat.le_of_ble_eq_true rfl⟩ rfl rfl (Nat.le_of_ble_eq_true rfl) ⟨Nat.le_of_ble_eq_true rfl, Nat.le_of_ble_eq_true rfl⟩ dX9_colorLater_17 (fun r17 M17 hp17 => ?_)
  obtain ⟨rfl, rfl⟩ := symm2 hp17
  refine jj_if_eq F (tgt := 27) dX9_colorLater_20 (by decide) (fun h9 => absurd h9 (by rw [hy]; decide)) (fun _ => ?_)
  refine jj_iconst F (v := nI 0) dX9_colorLater_23 (by decide) ?_
  refine jj_goto F (tgt := 28) dX9_colorLater_24 (by decide) ?_
  refine jj_puti F p87 (by assumption) (by rfl) dX9_colorLater_28 ?_
  refine jj_aload_n F dX9_colorLater_31 rfl ?_
  refine jj_geti F g87 (by assumption) (by rfl) dX9_colorLater_32 ?_
  rw [thr_0]
  refine jj_if_le F (tgt := 40) dX9_colorLater_35 (by decide) (fun _ => ?_) (fun h9 => absurd (by decide) h9)
  refine jj_aload_n F dX9_colorLater_40 rfl ?_
  refine jj_aload_n F dX9_colorLater_41 rfl ?_
  refine jj_geti F g126 (by assumption) (by rfl) dX9_colorLater_42 ?_
  refine jj_iload_n F dX9_colorLater_45 rfl ?_
  refine jj_iadd F dX9_colorLater_46 ?_
  rw [thr_b _ _ (by decide), htk, nI_add]
  refine jj_callVv (na := 1) F (c_X9_layAt (RelM_thr hM)) (gl_V mk_X9_129 vw_X9_layAt) rfl rfl rfl (by decide +kernel) ⟨Nat.le_of_ble_eq_true rfl, Nat.le_of_ble_eq_true rfl⟩ kM rfl rfl rfl (Nat.le_of_ble_eq_true rfl) ⟨Nat.le_of_ble_eq_true rfl, Nat.le_of_ble_eq_true rfl⟩ dX9_colorLater_47 (fun MN hpN => ?_)
  have hTN := topsOk_lay h60 hpN
  refine jj_aload_n F dX9_colorLater_50 rfl ?_
  refine jj_iload_n F dX9_colorLater_51 rfl ?_
  refine jj_callVi (na := 1) F (c_X9_shown hTN hc) (gl_V mk_X9_132 vw_X9_shown) rfl rfl rfl (by decide +kernel) ⟨Nat.le_of_ble_eq_true rfl, Nat.le_of_ble_eq_true rfl⟩ kM rfl rfl rfl (Nat.le_of_ble_eq_true rfl) ⟨Nat.le_of_ble_eq_true rfl, Nat.le_of_ble_eq_true rfl⟩ dX9_colorLater_52 (fun r52 M52 hp52 => ?_)
  obtain ⟨rfl, rfl⟩ := symm2 hp52
  refine ret _ _ _ _ dX9_colorLater_55 (by first | rfl | exact nar_z (by first | exact Or.inl rfl | exact Or.inr rfl | exact b2i_01 _ | assumption)) ?_
  refine ⟨shF_lay (RelM_thr hM) (Nat.le_refl _) hpN hc, RelM_lay (RelM_thr hM) hpN, Pub_thr (FrD_of (Fr_lay hpN))⟩
set_option maxRecDepth 100000 in
set_option maxHeartbeats 1000000 in
theorem m_count_1 {l : Launch} {E : Ee} {M : Mm} {a : Ab} {W : Nat} (hM : RelM M a W) {x : Int32} (hw : wiB x (nI 0) (nI 9) = false) : CtI l E yX9_count (.code yX9_count cX9_count 2 (some .int) :: gl) ({ frames := 6, cells := 0, slots := 0, locals := 139 } : Room) M [.ref (E.2.2 478), .int x] 0 0 (fun r M2 => r = nI 0 ∧ RelM M2 a W ∧ Pub M M2 1) := by
  refine ctI_of (L0 := [some (.ref (E.2.2 478)), some (.int x)]) (by decide) rfl (Nat.le_of_ble_eq_true rfl) rfl ?_
  intro Z hl hE hnl F ret
  subst hE
  have in_X9 : ∀ w ∈ u_ws RX9 TX9 33, w ∈ (.code yX9_count cX9_count 2 (some .int) :: gl) := fun w h => List.mem_cons_of_mem _ (lay_X9 w h)
  have g87 : FG Z 87 9 0 := fg_mk F (C := RX9) (T := TX9) (N := 33) in_X9 rfl (by decide) rfl (List.mem_cons_of_mem _ fk_X9_87)
  have p87 : FP Z 87 9 0 .int := fp_mk F (C := RX9) (T := TX9) (N := 33) in_X9 tyX9_ok nmX9 rfl (by decide) rfl (List.mem_cons_of_mem _ fk_X9_87) rfl (by decide +kernel)
  obtain ⟨⟨h60, ht, htk, hn, hop, hac, hun, hopk, ⟨u0, hu1, hu2, hu3⟩, C, hC, hCa⟩, ⟨hlk, hll, hlz⟩, hK, ⟨hln, hl40, htx⟩, L0, hL0⟩ := id hM
  have kM := kd_M
  have k479 := kd_479
  have k480 := kd_480
  have k481 := kd_481
  have k482 := kd_482
  have k483 := kd_483
  have k484 := kd_484
  have k485 := kd_485
  have k486 := kd_486
  have k487 := kd_487
  have k488 := kd_488
  have k489 := kd_489
  have k490 := kd_490
  have k491 := kd_491
  have k492 := kd_492
  have k493 := kd_493
  have k494 := kd_494
  have k495 := kd_495
  have k496 := kd_496
  have k497 := kd_497
  have k498 := kd_498
  have k499 := kd_499
  have k500 := kd_500
  have k501 := kd_501
  have k502 := kd_502
  have k503 := kd_503
  refine jj_aload_n F dX9_count_0 rfl ?_
  refine jj_iload_n F dX9_count_1 rfl ?_
  refine jj_iconst F (v := nI 0) dX9_count_2 (by decide) ?_
  refine jj_bipush F (v := nI 9) dX9_count_3 (by decide) ?_
  refine jj_callSi (na := 3) F c_X9_within (gl_S mk_X9_91 vw_X9_within) rfl rfl rfl (by decide +kernel) ⟨Nat.le_of_ble_eq_true rfl, Nat.le_of_ble_eq_true rfl⟩ rfl rfl (Nat.le_of_ble_eq_true rfl) ⟨Nat.le_of_ble_eq_true rfl, Nat.le_of_ble_eq_true rfl⟩ dX9_count_5 (fun r5 M5 hp5 => ?_)
  obtain ⟨rfl, rfl⟩ := symm2 hp5
  refine jj_if_eq F (tgt := 15) dX9_count_8 (by decide) (fun _ => ?_) (fun h9 => absurd (by rw [hw]; rfl) h9)
  refine jj_iconst F (v := nI 1) dX9_count_15 (by decide) ?_
  refine jj_puti F p87 (by assumption) (by rfl) dX9_count_16 ?_
  refine jj_aload_n F dX9_count_19 rfl ?_
  refine jj_geti F g87 (by assumption) (by rfl) dX9_count_20 ?_
  rw [thr_0]
  refine jj_if_le F (tgt := 28) dX9_count_23 (by decide) (fun h9 => absurd h9 (by decide)) (fun _ => ?_)
  refine jj_iconst F (v := nI 0) dX9_count_26 (by decide) ?_
  refine ret _ _ _ _ dX9_count_27 (by first | rfl | exact nar_z (by first | exact Or.inl rfl | exact Or.inr rfl | exact b2i_01 _ | assumption)) ?_
  exact ⟨rfl, RelM_thr hM, Pub_0⟩
set_option maxRecDepth 100000 in
set_option maxHeartbeats 1000000 in
theorem m_count_0 {l : Launch} {E : Ee} {M : Mm} {a : Ab} {W : Nat} (hM : RelM M a W) {w : Nat} (hw9 : w < 10) : CtI l E yX9_count (.code yX9_count cX9_count 2 (some .int) :: gl) ({ frames := 6, cells := 0, slots := 0, locals := 139 } : Room) M [.ref (E.2.2 478), .int (nI w)] 0 0 (fun r M2 => r = bpA a w ∧ RelM M2 a W ∧ Pub M M2 0) := by
  refine ctI_of (L0 := [some (.ref (E.2.2 478)), some (.int (nI w))]) (by decide) rfl (Nat.le_of_ble_eq_true rfl) rfl ?_
  intro Z hl hE hnl F ret
  subst hE
  have in_X9 : ∀ w ∈ u_ws RX9 TX9 33, w ∈ (.code yX9_count cX9_count 2 (some .int) :: gl) := fun w h => List.mem_cons_of_mem _ (lay_X9 w h)
  have g87 : FG Z 87 9 0 := fg_mk F (C := RX9) (T := TX9) (N := 33) in_X9 rfl (by decide) rfl (List.mem_cons_of_mem _ fk_X9_87)
  have p87 : FP Z 87 9 0 .int := fp_mk F (C := RX9) (T := TX9) (N := 33) in_X9 tyX9_ok nmX9 rfl (by decide) rfl (List.mem_cons_of_mem _ fk_X9_87) rfl (by decide +kernel)
  obtain ⟨⟨h60, ht, htk, hn, hop, hac, hun, hopk, ⟨u0, hu1, hu2, hu3⟩, C, hC, hCa⟩, ⟨hlk, hll, hlz⟩, hK, ⟨hln, hl40, htx⟩, L0, hL0⟩ := id hM
  have kM := kd_M
  have k479 := kd_479
  have k480 := kd_480
  have k481 := kd_481
  have k482 := kd_482
  have k483 := kd_483
  have k484 := kd_484
  have k485 := kd_485
  have k486 := kd_486
  have k487 := kd_487
  have k488 := kd_488
  have k489 := kd_489
  have k490 := kd_490
  have k491 := kd_491
  have k492 := kd_492
  have k493 := kd_493
  have k494 := kd_494
  have k495 := kd_495
  have k496 := kd_496
  have k497 := kd_497
  have k498 := kd_498
  have k499 := kd_499
  have k500 := kd_500
  have k501 := kd_501
  have k502 := kd_502
  have k503 := kd_503
  have hw := wi_ok (lo := 0) (c := w) (hi := 9) (by omega) (by omega) (by omega)
  refine jj_aload_n F dX9_count_0 rfl ?_
  refine jj_iload_n F dX9_count_1 rfl ?_
  refine jj_iconst F (v := nI 0) dX9_count_2 (by decide) ?_
  refine jj_bipush F (v := nI 9) dX9_count_3 (by decide) ?_
  refine jj_callSi (na := 3) F c_X9_within (gl_S mk_X9_91 vw_X9_within) rfl rfl rfl (by decide +kernel) ⟨Nat.le_of_ble_eq_true rfl, Nat.le_of_ble_eq_true rfl⟩ rfl rfl (Nat.le_of_ble_eq_true rfl) ⟨Nat.le_of_ble_eq_true rfl, Nat.le_of_ble_eq_true rfl⟩ dX9_count_5 (fun r5 M5 hp5 => ?_)
  obtain ⟨rfl, rfl⟩ := symm2 hp5
  refine jj_if_eq F (tgt := 15) dX9_count_8 (by decide) (fun h9 => absurd h9 (by rw [hw]; decide)) (fun _ => ?_)
  refine jj_iconst F (v := nI 0) dX9_count_11 (by decide) ?_
  refine jj_goto F (tgt := 16) dX9_count_12 (by decide) ?_
  refine jj_puti F p87 (by assumption) (by rfl) dX9_count_16 ?_
  refine jj_aload_n F dX9_count_19 rfl ?_
  refine jj_geti F g87 (by assumption) (by rfl) dX9_count_20 ?_
  rw [thr_0]
  refine jj_if_le F (tgt := 28) dX9_count_23 (by decide) (fun _ => ?_) (fun h9 => absurd (by decide) h9)
  refine jj_aload_n F dX9_count_28 rfl ?_
  refine jj_callVv (na := 0) F (c_X9_layNow (RelM_thr hM)) (gl_V mk_X9_201 vw_X9_layNow) rfl rfl rfl (by decide +kernel) ⟨Nat.le_of_ble_eq_true rfl, Nat.le_of_ble_eq_true rfl⟩ kM rfl rfl rfl (Nat.le_of_ble_eq_true rfl) ⟨Nat.le_of_ble_eq_true rfl, Nat.le_of_ble_eq_true rfl⟩ dX9_count_29 (fun MN hpN => ?_)
  have hD9 := Ld_lay (RelM_thr hM) hpN
  have hTN := Ld_tops hD9
  refine jj_aload_n F dX9_count_32 rfl ?_
  refine jj_iload_n F dX9_count_33 rfl ?_
  refine jj_callVi (na := 1) F (c_X9_counted hD9 hw9) (gl_V mk_X9_283 vw_X9_counted) rfl rfl rfl (by decide +kernel) ⟨Nat.le_of_ble_eq_true rfl, Nat.le_of_ble_eq_true rfl⟩ kM rfl rfl rfl (Nat.le_of_ble_eq_true rfl) ⟨Nat.le_of_ble_eq_true rfl, Nat.le_of_ble_eq_true rfl⟩ dX9_count_34 (fun r34 M34 hp34 => ?_)
  refine ret _ _ _ _ dX9_count_37 (by first | rfl | exact nar_z (by first | exact Or.inl rfl | exact Or.inr rfl | exact b2i_01 _ | assumption)) ?_
  refine ⟨hp34.1, hp34.2.1.1, Pub_thr (FrD_tr (FrD_of (Fr_lay hpN)) (FrD_of hp34.2.2))⟩
set_option maxRecDepth 100000 in
set_option maxHeartbeats 1000000 in
theorem m_operation_1 {l : Launch} {E : Ee} {M : Mm} {a : Ab} {W : Nat} (hM : RelM M a W) {x y : Int32} (hw : wiB x (nI 0) (nI (a_n a) - nI 1) = false) : CtI l E yX9_operation (.code yX9_operation cX9_operation 3 (some .int) :: gl) ({ frames := 6, cells := 0, slots := 0, locals := 140 } : Room) M [.ref (E.2.2 478), .int x, .int y] 0 0 (fun r M2 => r = nI 0 ∧ RelM M2 a W ∧ Pub M M2 1) := by
  refine ctI_of (L0 := [some (.ref (E.2.2 478)), some (.int x), some (.int y)]) (by decide) rfl (Nat.le_of_ble_eq_true rfl) rfl ?_
  intro Z hl hE hnl F ret
  subst hE
  have in_X9 : ∀ w ∈ u_ws RX9 TX9 33, w ∈ (.code yX9_operation cX9_operation 3 (some .int) :: gl) := fun w h => List.mem_cons_of_mem _ (lay_X9 w h)
  have g87 : FG Z 87 9 0 := fg_mk F (C := RX9) (T := TX9) (N := 33) in_X9 rfl (by decide) rfl (List.mem_cons_of_mem _ fk_X9_87)
  have p87 : FP Z 87 9 0 .int := fp_mk F (C := RX9) (T := TX9) (N := 33) in_X9 tyX9_ok nmX9 rfl (by decide) rfl (List.mem_cons_of_mem _ fk_X9_87) rfl (by decide +kernel)
  obtain ⟨⟨h60, ht, htk, hn, hop, hac, hun, hopk, ⟨u0, hu1, hu2, hu3⟩, C, hC, hCa⟩, ⟨hlk, hll, hlz⟩, hK, ⟨hln, hl40, htx⟩, L0, hL0⟩ := id hM
  have kM := kd_M
  have k479 := kd_479
  have k480 := kd_480
  have k481 := kd_481
  have k482 := kd_482
  have k483 := kd_483
  have k484 := kd_484
  have k485 := kd_485
  have k486 := kd_486
  have k487 := kd_487
  have k488 := kd_488
  have k489 := kd_489
  have k490 := kd_490
  have k491 := kd_491
  have k492 := kd_492
  have k493 := kd_493
  have k494 := kd_494
  have k495 := kd_495
  have k496 := kd_496
  have k497 := kd_497
  have k498 := kd_498
  have k499 := kd_499
  have k500 := kd_500
  have k501 := kd_501
  have k502 := kd_502
  have k503 := kd_503
  refine jj_aload_n F dX9_operation_0 rfl ?_
  refine jj_aload_n F dX9_operation_1 rfl ?_
  refine jj_iload_n F dX9_operation_2 rfl ?_
  refine jj_callVi (na := 1) F c_X9_isOperation (gl_V mk_X9_289 vw_X9_isOperation) rfl rfl rfl (by decide +kernel) ⟨Nat.le_of_ble_eq_true rfl, Nat.le_of_ble_eq_true rfl⟩ kM rfl rfl rfl (Nat.le_of_ble_eq_true rfl) ⟨Nat.le_of_ble_eq_true rfl, Nat.le_of_ble_eq_true rfl⟩ dX9_operation_3 (fun r3 M3 hp3 => ?_)
  obtain ⟨rfl, rfl⟩ := symm2 hp3
  rw [hn]
  refine jj_if_ne F (tgt := 13) dX9_operation_6 (by decide) (fun h9 => absurd h9 (fun z => z (by rw [hw]; rfl))) (fun _ => ?_)
  refine jj_iconst F (v := nI 1) dX9_operation_9 (by decide) ?_
  refine jj_goto F (tgt := 28) dX9_operation_10 (by decide) ?_
  refine jj_puti F p87 (by assumption) (by rfl) dX9_operation_28 ?_
  refine jj_aload_n F dX9_operation_31 rfl ?_
  refine jj_geti F g87 (by assumption) (by rfl) dX9_operation_32 ?_
  rw [thr_0]
  refine jj_if_le F (tgt := 40) dX9_operation_35 (by decide) (fun h9 => absurd h9 (by decide)) (fun _ => ?_)
  refine jj_iconst F (v := nI 0) dX9_operation_38 (by decide) ?_
  refine ret _ _ _ _ dX9_operation_39 (by first | rfl | exact nar_z (by first | exact Or.inl rfl | exact Or.inr rfl | exact b2i_01 _ | assumption)) ?_
  exact ⟨rfl, RelM_thr hM, Pub_0⟩
set_option maxRecDepth 100000 in
set_option maxHeartbeats 1000000 in
theorem m_operation_2 {l : Launch} {E : Ee} {M : Mm} {a : Ab} {W : Nat} (hM : RelM M a W) {k : Nat} {y : Int32} (hk : k < a_n a) (hy : wiB y (nI 0) (nI 10) = false) : CtI l E yX9_operation (.code yX9_operation cX9_operation 3 (some .int) :: gl) ({ frames := 6, cells := 0, slots := 0, locals := 140 } : Room) M [.ref (E.2.2 478), .int (nI k), .int y] 0 0 (fun r M2 => r = nI 0 ∧ RelM M2 a W ∧ Pub M M2 2) := by
  refine ctI_of (L0 := [some (.ref (E.2.2 478)), some (.int (nI k)), some (.int y)]) (by decide) rfl (Nat.le_of_ble_eq_true rfl) rfl ?_
  intro Z hl hE hnl F ret
  subst hE
  have in_X9 : ∀ w ∈ u_ws RX9 TX9 33, w ∈ (.code yX9_operation cX9_operation 3 (some .int) :: gl) := fun w h => List.mem_cons_of_mem _ (lay_X9 w h)
  have g87 : FG Z 87 9 0 := fg_mk F (C := RX9) (T := TX9) (N := 33) in_X9 rfl (by decide) rfl (List.mem_cons_of_mem _ fk_X9_87)
  have p87 : FP Z 87 9 0 .int := fp_mk F (C := RX9) (T := TX9) (N := 33) in_X9 tyX9_ok nmX9 rfl (by decide) rfl (List.mem_cons_of_mem _ fk_X9_87) rfl (by decide +kernel)
  obtain ⟨⟨h60, ht, htk, hn, hop, hac, hun, hopk, ⟨u0, hu1, hu2, hu3⟩, C, hC, hCa⟩, ⟨hlk, hll, hlz⟩, hK, ⟨hln, hl40, htx⟩, L0, hL0⟩ := id hM
  have kM := kd_M
  have k479 := kd_479
  have k480 := kd_480
  have k481 := kd_481
  have k482 := kd_482
  have k483 := kd_483
  have k484 := kd_484
  have k485 := kd_485
  have k486 := kd_486
  have k487 := kd_487
  have k488 := kd_488
  have k489 := kd_489
  have k490 := kd_490
  have k491 := kd_491
  have k492 := kd_492
  have k493 := kd_493
  have k494 := kd_494
  have k495 := kd_495
  have k496 := kd_496
  have k497 := kd_497
  have k498 := kd_498
  have k499 := kd_499
  have k500 := kd_500
  have k501 := kd_501
  have k502 := kd_502
  have k503 := kd_503
  have hw := isop_k hk h60
  refine jj_aload_n F dX9_operation_0 rfl ?_
  refine jj_aload_n F dX9_operation_1 rfl ?_
  refine jj_iload_n F dX9_operation_2 rfl ?_
  refine jj_callVi (na := 1) F c_X9_isOperation (gl_V mk_X9_289 vw_X9_isOperation) rfl rfl rfl (by decide +kernel) ⟨Nat.le_of_ble_eq_true rfl, Nat.le_of_ble_eq_true rfl⟩ kM rfl rfl rfl (Nat.le_of_ble_eq_true rfl) ⟨Nat.le_of_ble_eq_true rfl, Nat.le_of_ble_eq_true rfl⟩ dX9_operation_3 (fun r3 M3 hp3 => ?_)
  obtain ⟨rfl, rfl⟩ := symm2 hp3
  rw [hn]
  refine jj_if_ne F (tgt := 13) dX9_operation_6 (by decide) (fun _ => ?_) (fun h9 => absurd h9 (by rw [hw]; decide))
  refine jj_iload_n F dX9_operation_13 rfl ?_
  refine jj_iconst F (v := nI 0) dX9_operation_14 (by decide) ?_
  refine jj_bipush F (v := nI 10) dX9_operation_15 (by decide) ?_
  refine jj_callSi (na := 3) F c_X9_within (gl_S mk_X9_91 vw_X9_within) rfl rfl rfl (by decide +kernel) ⟨Nat.le_of_ble_eq_true rfl, Nat.le_of_ble_eq_true rfl⟩ rfl rfl (Nat.le_of_ble_eq_true rfl) ⟨Nat.le_of_ble_eq_true rfl, Nat.le_of_ble_eq_true rfl⟩ dX9_operation_17 (fun r17 M17 hp17 => ?_)
  obtain ⟨rfl, rfl⟩ := symm2 hp17
  refine jj_if_eq F (tgt := 27) dX9_operation_20 (by decide) (fun _ => ?_) (fun h9 => absurd (by rw [hy]; rfl) h9)
  refine jj_iconst F (v := nI 2) dX9_operation_27 (by decide) ?_
  refine jj_puti F p87 (by assumption) (by rfl) dX9_operation_28 ?_
  refine jj_aload_n F dX9_operation_31 rfl ?_
  refine jj_geti F g87 (by assumption) (by rfl) dX9_operation_32 ?_
  rw [thr_0]
  refine jj_if_le F (tgt := 40) dX9_operation_35 (by decide) (fun h9 => absurd h9 (by decide)) (fun _ => ?_)
  refine jj_iconst F (v := nI 0) dX9_operation_38 (by decide) ?_
  refine ret _ _ _ _ dX9_operation_39 (by first | rfl | exact nar_z (by first | exact Or.inl rfl | exact Or.inr rfl | exact b2i_01 _ | assumption)) ?_
  exact ⟨rfl, RelM_thr hM, Pub_0⟩
set_option maxRecDepth 100000 in
set_option maxHeartbeats 1000000 in
theorem m_operation_0 {l : Launch} {E : Ee} {M : Mm} {a : Ab} {W : Nat} (hM : RelM M a W) {k w : Nat} (hk : k < a_n a) (hw9 : w < 11) : CtI l E yX9_operation (.code yX9_operation cX9_operation 3 (some .int) :: gl) ({ frames := 6, cells := 0, slots := 0, locals := 140 } : Room) M [.ref (E.2.2 478), .int (nI k), .int (nI w)] 0 0 (fun r M2 => r = opA a k w ∧ RelM M2 a W ∧ Pub M M2 0) := by
  refine ctI_of (L0 := [some (.ref (E.2.2 478)), some (.int (nI k)), some (.int (nI w))]) (by decide) rfl (Nat.le_of_ble_eq_true rfl) rfl ?_
  intro Z hl hE hnl F ret
  subst hE
  have in_X9 : ∀ w ∈ u_ws RX9 TX9 33, w ∈ (.code yX9_operation cX9_operation 3 (some .int) :: gl) := fun w h => List.mem_cons_of_mem _ (lay_X9 w h)
  have g87 : FG Z 87 9 0 := fg_mk F (C := RX9) (T := TX9) (N := 33) in_X9 rfl (by decide) rfl (List.mem_cons_of_mem _ fk_X9_87)
  have p87 : FP Z 87 9 0 .int := fp_mk F (C := RX9) (T := TX9) (N := 33) in_X9 tyX9_ok nmX9 rfl (by decide) rfl (List.mem_cons_of_mem _ fk_X9_87) rfl (by decide +kernel)
  obtain ⟨⟨h60, ht, htk, hn, hop, hac, hun, hopk, ⟨u0, hu1, hu2, hu3⟩, C, hC, hCa⟩, ⟨hlk, hll, hlz⟩, hK, ⟨hln, hl40, htx⟩, L0, hL0⟩ := id hM
  have kM := kd_M
  have k479 := kd_479
  have k480 := kd_480
  have k481 := kd_481
  have k482 := kd_482
  have k483 := kd_483
  have k484 := kd_484
  have k485 := kd_485
  have k486 := kd_486
  have k487 := kd_487
  have k488 := kd_488
  have k489 := kd_489
  have k490 := kd_490
  have k491 := kd_491
  have k492 := kd_492
  have k493 := kd_493
  have k494 := kd_494
  have k495 := kd_495
  have k496 := kd_496
  have k497 := kd_497
  have k498 := kd_498
  have k499 := kd_499
  have k500 := kd_500
  have k501 := kd_501
  have k502 := kd_502
  have k503 := kd_503
  have hw := isop_k hk h60
  have hy := wi_ok (lo := 0) (c := w) (hi := 10) (by omega) (by omega) (by omega)
  refine jj_aload_n F dX9_operation_0 rfl ?_
  refine jj_aload_n F dX9_operation_1 rfl ?_
  refine jj_iload_n F dX9_operation_2 rfl ?_
  refine jj_callVi (na := 1) F c_X9_isOperation (gl_V mk_X9_289 vw_X9_isOperation) rfl rfl rfl (by decide +kernel) ⟨Nat.le_of_ble_eq_true rfl, Nat.le_of_ble_eq_true rfl⟩ kM rfl rfl rfl (Nat.le_of_ble_eq_true rfl) ⟨Nat.le_of_ble_eq_true rfl, Nat.le_of_ble_eq_true rfl⟩ dX9_operation_3 (fun r3 M3 hp3 => ?_)
  obtain ⟨rfl, rfl⟩ := symm2 hp3
  rw [hn]
  refine jj_if_ne F (tgt := 13) dX9_operation_6 (by decide) (fun _ => ?_) (fun h9 => absurd h9 (by rw [hw]; decide))
  refine jj_iload_n F dX9_operation_13 rfl ?_
  refine jj_iconst F (v := nI 0) dX9_operation_14 (by decide) ?_
  refine jj_bipush F (v := nI 10) dX9_operation_15 (by decide) ?_
  refine jj_callSi (na := 3) F c_X9_within (gl_S mk_X9_91 vw_X9_within) rfl rfl rfl (by decide +kernel) ⟨Nat.le_of_ble_eq_true rfl, Nat.le_of_ble_eq_true rfl⟩ rfl rfl (Nat.le_of_ble_eq_true rfl) ⟨Nat.le_of_ble_eq_true rfl, Nat.le_of_ble_eq_true rfl⟩ dX9_operation_17 (fun r17 M17 hp17 => ?_)
  obtain ⟨rfl, rfl⟩ := symm2 hp17
  refine jj_if_eq F (tgt := 27) dX9_operation_20 (by decide) (fun h9 => absurd h9 (by rw [hy]; decide)) (fun _ => ?_)
  refine jj_iconst F (v := nI 0) dX9_operation_23 (by decide) ?_
  refine jj_goto F (tgt := 28) dX9_operation_24 (by decide) ?_
  refine jj_puti F p87 (by assumption) (by rfl) dX9_operation_28 ?_
  refine jj_aload_n F dX9_operation_31 rfl ?_
  refine jj_geti F g87 (by assumption) (by rfl) dX9_operation_32 ?_
  rw [thr_0]
  refine jj_if_le F (tgt := 40) dX9_operation_35 (by decide) (fun _ => ?_) (fun h9 => absurd (by decide) h9)
  refine jj_aload_n F dX9_operation_40 rfl ?_
  refine jj_callVv (na := 0) F (c_X9_layNow (RelM_thr hM)) (gl_V mk_X9_201 vw_X9_layNow) rfl rfl rfl (by decide +kernel) ⟨Nat.le_of_ble_eq_true rfl, Nat.le_of_ble_eq_true rfl⟩ kM rfl rfl rfl (Nat.le_of_ble_eq_true rfl) ⟨Nat.le_of_ble_eq_true rfl, Nat.le_of_ble_eq_true rfl⟩ dX9_operation_41 (fun MN hpN => ?_)
  have hD9 := Ld_lay (RelM_thr hM) hpN
  have hTN := Ld_tops hD9
  refine jj_aload_n F dX9_operation_44 rfl ?_
  refine jj_iload_n F dX9_operation_45 rfl ?_
  refine jj_iload_n F dX9_operation_46 rfl ?_
  refine jj_callVi (na := 2) F (c_X9_told hD9 hk hw9) (gl_V mk_X9_292 vw_X9_told) rfl rfl rfl (by decide +kernel) ⟨Nat.le_of_ble_eq_true rfl, Nat.le_of_ble_eq_true rfl⟩ kM rfl rfl rfl (Nat.le_of_ble_eq_true rfl) ⟨Nat.le_of_ble_eq_true rfl, Nat.le_of_ble_eq_true rfl⟩ dX9_operation_47 (fun r34 M34 hp34 => ?_)
  refine ret _ _ _ _ dX9_operation_50 (by first | rfl | exact nar_z (by first | exact Or.inl rfl | exact Or.inr rfl | exact b2i_01 _ | assumption)) ?_
  refine ⟨hp34.1, hp34.2.1.1, Pub_thr (FrD_tr (FrD_of (Fr_lay hpN)) (FrD_of hp34.2.2))⟩
set_option maxRecDepth 100000 in
set_option maxHeartbeats 1000000 in
theorem m_user_1 {l : Launch} {E : Ee} {M : Mm} {a : Ab} {W : Nat} (hM : RelM M a W) {x y : Int32} (hw : wiB x (nI 0) (nI 4) = false) : CtI l E yX9_user (.code yX9_user cX9_user 3 (some .int) :: gl) ({ frames := 5, cells := 0, slots := 0, locals := 115 } : Room) M [.ref (E.2.2 478), .int x, .int y] 0 0 (fun r M2 => r = nI 0 ∧ RelM M2 a W ∧ Pub M M2 1) := by
  refine ctI_of (L0 := [some (.ref (E.2.2 478)), some (.int x), some (.int y)]) (by decide) rfl (Nat.le_of_ble_eq_true rfl) rfl ?_
  intro Z hl hE hnl F ret
  subst hE
  have in_X9 : ∀ w ∈ u_ws RX9 TX9 33, w ∈ (.code yX9_user cX9_user 3 (some .int) :: gl) := fun w h => List.mem_cons_of_mem _ (lay_X9 w h)
  have g87 : FG Z 87 9 0 := fg_mk F (C := RX9) (T := TX9) (N := 33) in_X9 rfl (by decide) rfl (List.mem_cons_of_mem _ fk_X9_87)
  have p87 : FP Z 87 9 0 .int := fp_mk F (C := RX9) (T := TX9) (N := 33) in_X9 tyX9_ok nmX9 rfl (by decide) rfl (List.mem_cons_of_mem _ fk_X9_87) rfl (by decide +kernel)
  obtain ⟨⟨h60, ht, htk, hn, hop, hac, hun, hopk, ⟨u0, hu1, hu2, hu3⟩, C, hC, hCa⟩, ⟨hlk, hll, hlz⟩, hK, ⟨hln, hl40, htx⟩, L0, hL0⟩ := id hM
  have kM := kd_M
  have k479 := kd_479
  have k480 := kd_480
  have k481 := kd_481
  have k482 := kd_482
  have k483 := kd_483
  have k484 := kd_484
  have k485 := kd_485
  have k486 := kd_486
  have k487 := kd_487
  have k488 := kd_488
  have k489 := kd_489
  have k490 := kd_490
  have k491 := kd_491
  have k492 := kd_492
  have k493 := kd_493
  have k494 := kd_494
  have k495 := kd_495
  have k496 := kd_496
  have k497 := kd_497
  have k498 := kd_498
  have k499 := kd_499
  have k500 := kd_500
  have k501 := kd_501
  have k502 := kd_502
  have k503 := kd_503
  refine jj_aload_n F dX9_user_0 rfl ?_
  refine jj_iload_n F dX9_user_1 rfl ?_
  refine jj_callSi (na := 1) F c_X9_isUser (gl_S mk_X9_184 vw_X9_isUser) rfl rfl rfl (by decide +kernel) ⟨Nat.le_of_ble_eq_true rfl, Nat.le_of_ble_eq_true rfl⟩ rfl rfl (Nat.le_of_ble_eq_true rfl) ⟨Nat.le_of_ble_eq_true rfl, Nat.le_of_ble_eq_true rfl⟩ dX9_user_2 (fun r2 M2 hp2 => ?_)
  obtain ⟨rfl, rfl⟩ := symm2 hp2
  refine jj_if_ne F (tgt := 12) dX9_user_5 (by decide) (fun h9 => absurd h9 (fun z => z (by rw [hw]; rfl))) (fun _ => ?_)
  refine jj_iconst F (v := nI 1) dX9_user_8 (by decide) ?_
  refine jj_goto F (tgt := 26) dX9_user_9 (by decide) ?_
  refine jj_puti F p87 (by assumption) (by rfl) dX9_user_26 ?_
  refine jj_aload_n F dX9_user_29 rfl ?_
  refine jj_geti F g87 (by assumption) (by rfl) dX9_user_30 ?_
  rw [thr_0]
  refine jj_if_le F (tgt := 38) dX9_user_33 (by decide) (fun h9 => absurd h9 (by decide)) (fun _ => ?_)
  refine jj_iconst F (v := nI 0) dX9_user_36 (by decide) ?_
  refine ret _ _ _ _ dX9_user_37 (by first | rfl | exact nar_z (by first | exact Or.inl rfl | exact Or.inr rfl | exact b2i_01 _ | assumption)) ?_
  exact ⟨rfl, RelM_thr hM, Pub_0⟩
set_option maxRecDepth 100000 in
set_option maxHeartbeats 1000000 in
theorem m_user_2 {l : Launch} {E : Ee} {M : Mm} {a : Ab} {W : Nat} (hM : RelM M a W) {u : Nat} {y : Int32} (hu : u < 5) (hy : wiB y (nI 0) (nI 4) = false) : CtI l E yX9_user (.code yX9_user cX9_user 3 (some .int) :: gl) ({ frames := 5, cells := 0, slots := 0, locals := 115 } : Room) M [.ref (E.2.2 478), .int (nI u), .int y] 0 0 (fun r M2 => r = nI 0 ∧ RelM M2 a W ∧ Pub M M2 2) := by
  refine ctI_of (L0 := [some (.ref (E.2.2 478)), some (.int (nI u)), some (.int y)]) (by decide) rfl (Nat.le_of_ble_eq_true rfl) rfl ?_
  intro Z hl hE hnl F ret
  subst hE
  have in_X9 : ∀ w ∈ u_ws RX9 TX9 33, w ∈ (.code yX9_user cX9_user 3 (some .int) :: gl) := fun w h => List.mem_cons_of_mem _ (lay_X9 w h)
  have g87 : FG Z 87 9 0 := fg_mk F (C := RX9) (T := TX9) (N := 33) in_X9 rfl (by decide) rfl (List.mem_cons_of_mem _ fk_X9_87)
  have p87 : FP Z 87 9 0 .int := fp_mk F (C := RX9) (T := TX9) (N := 33) in_X9 tyX9_ok nmX9 rfl (by decide) rfl (List.mem_cons_of_mem _ fk_X9_87) rfl (by decide +kernel)
  obtain ⟨⟨h60, ht, htk, hn, hop, hac, hun, hopk, ⟨u0, hu1, hu2, hu3⟩, C, hC, hCa⟩, ⟨hlk, hll, hlz⟩, hK, ⟨hln, hl40, htx⟩, L0, hL0⟩ := id hM
  have kM := kd_M
  have k479 := kd_479
  have k480 := kd_480
  have k481 := kd_481
  have k482 := kd_482
  have k483 := kd_483
  have k484 := kd_484
  have k485 := kd_485
  have k486 := kd_486
  have k487 := kd_487
  have k488 := kd_488
  have k489 := kd_489
  have k490 := kd_490
  have k491 := kd_491
  have k492 := kd_492
  have k493 := kd_493
  have k494 := kd_494
  have k495 := kd_495
  have k496 := kd_496
  have k497 := kd_497
  have k498 := kd_498
  have k499 := kd_499
  have k500 := kd_500
  have k501 := kd_501
  have k502 := kd_502
  have k503 := kd_503
  have hw := wi_ok (lo := 0) (c := u) (hi := 4) (by omega) (by omega) (by omega)
  refine jj_aload_n F dX9_user_0 rfl ?_
  refine jj_iload_n F dX9_user_1 rfl ?_
  refine jj_callSi (na := 1) F c_X9_isUser (gl_S mk_X9_184 vw_X9_isUser) rfl rfl rfl (by decide +kernel) ⟨Nat.le_of_ble_eq_true rfl, Nat.le_of_ble_eq_true rfl⟩ rfl rfl (Nat.le_of_ble_eq_true rfl) ⟨Nat.le_of_ble_eq_true rfl, Nat.le_of_ble_eq_true rfl⟩ dX9_user_2 (fun r2 M2 hp2 => ?_)
  obtain ⟨rfl, rfl⟩ := symm2 hp2
  refine jj_if_ne F (tgt := 12) dX9_user_5 (by decide) (fun _ => ?_) (fun h9 => absurd h9 (by rw [hw]; decide))
  refine jj_iload_n F dX9_user_12 rfl ?_
  refine jj_iconst F (v := nI 0) dX9_user_13 (by decide) ?_
  refine jj_iconst F (v := nI 4) dX9_user_14 (by decide) ?_
  refine jj_callSi (na := 3) F c_X9_within (gl_S mk_X9_91 vw_X9_within) rfl rfl rfl (by decide +kernel) ⟨Nat.le_of_ble_eq_true rfl, Nat.le_of_ble_eq_true rfl⟩ rfl rfl (Nat.le_of_ble_eq_true rfl) ⟨Nat.le_of_ble_eq_true rfl, Nat.le_of_ble_eq_true rfl⟩ dX9_user_15 (fun r15 M15 hp15 => ?_)
  obtain ⟨rfl, rfl⟩ := symm2 hp15
  refine jj_if_eq F (tgt := 25) dX9_user_18 (by decide) (fun _ => ?_) (fun h9 => absurd (by rw [hy]; rfl) h9)
  refine jj_iconst F (v := nI 2) dX9_user_25 (by decide) ?_
  refine jj_puti F p87 (by assumption) (by rfl) dX9_user_26 ?_
  refine jj_aload_n F dX9_user_29 rfl ?_
  refine jj_geti F g87 (by assumption) (by rfl) dX9_user_30 ?_
  rw [thr_0]
  refine jj_if_le F (tgt := 38) dX9_user_33 (by decide) (fun h9 => absurd h9 (by decide)) (fun _ => ?_)
  refine jj_iconst F (v := nI 0) dX9_user_36 (by decide) ?_
  refine ret _ _ _ _ dX9_user_37 (by first | rfl | exact nar_z (by first | exact Or.inl rfl | exact Or.inr rfl | exact b2i_01 _ | assumption)) ?_
  exact ⟨rfl, RelM_thr hM, Pub_0⟩
set_option maxRecDepth 100000 in
set_option maxHeartbeats 1000000 in
theorem m_user_0 {l : Launch} {E : Ee} {M : Mm} {a : Ab} {W : Nat} (hM : RelM M a W) {u w : Nat} (hu : u < 5) (hw9 : w < 5) (hWW : W < 1000) : CtI l E yX9_user (.code yX9_user cX9_user 3 (some .int) :: gl) ({ frames := 5, cells := 0, slots := 0, locals := 115 } : Room) M [.ref (E.2.2 478), .int (nI u), .int (nI w)] 0 0 (fun r M2 => r = usA a u w ∧ RelM M2 a W ∧ Pub M M2 0) := by
  refine ctI_of (L0 := [some (.ref (E.2.2 478)), some (.int (nI u)), some (.int (nI w))]) (by decide) rfl (Nat.le_of_ble_eq_true rfl) rfl ?_
  intro Z hl hE hnl F ret
  subst hE
  have in_X9 : ∀ w ∈ u_ws RX9 TX9 33, w ∈ (.code yX9_user cX9_user 3 (some .int) :: gl) := fun w h => List.mem_cons_of_mem _ (lay_X9 w h)
  have g87 : FG Z 87 9 0 := fg_mk F (C := RX9) (T := TX9) (N := 33) in_X9 rfl (by decide) rfl (List.mem_cons_of_mem _ fk_X9_87)
  have p87 : FP Z 87 9 0 .int := fp_mk F (C := RX9) (T := TX9) (N := 33) in_X9 tyX9_ok nmX9 rfl (by decide) rfl (List.mem_cons_of_mem _ fk_X9_87) rfl (by decide +kernel)
  obtain ⟨⟨h60, ht, htk, hn, hop, hac, hun, hopk, ⟨u0, hu1, hu2, hu3⟩, C, hC, hCa⟩, ⟨hlk, hll, hlz⟩, hK, ⟨hln, hl40, htx⟩, L0, hL0⟩ := id hM
  have kM := kd_M
  have k479 := kd_479
  have k480 := kd_480
  have k481 := kd_481
  have k482 := kd_482
  have k483 := kd_483
  have k484 := kd_484
  have k485 := kd_485
  have k486 := kd_486
  have k487 := kd_487
  have k488 := kd_488
  have k489 := kd_489
  have k490 := kd_490
  have k491 := kd_491
  have k492 := kd_492
  have k493 := kd_493
  have k494 := kd_494
  have k495 := kd_495
  have k496 := kd_496
  have k497 := kd_497
  have k498 := kd_498
  have k499 := kd_499
  have k500 := kd_500
  have k501 := kd_501
  have k502 := kd_502
  have k503 := kd_503
  have hw := wi_ok (lo := 0) (c := u) (hi := 4) (by omega) (by omega) (by omega)
  have hy := wi_ok (lo := 0) (c := w) (hi := 4) (by omega) (by omega) (by omega)
  refine jj_aload_n F dX9_user_0 rfl ?_
  refine jj_iload_n F dX9_user_1 rfl ?_
  refine jj_callSi (na := 1) F c_X9_isUser (gl_S mk_X9_184 vw_X9_isUser) rfl rfl rfl (by decide +kernel) ⟨Nat.le_of_ble_eq_true rfl, Nat.le_of_ble_eq_true rfl⟩ rfl rfl (Nat.le_of_ble_eq_true rfl) ⟨Nat.le_of_ble_eq_true rfl, Nat.le_of_ble_eq_true rfl⟩ dX9_user_2 (fun r2 M2 hp2 => ?_)
  obtain ⟨rfl, rfl⟩ := symm2 hp2
  refine jj_if_ne F (tgt := 12) dX9_user_5 (by decide) (fun _ => ?_) (fun h9 => absurd h9 (by rw [hw]; decide))
  refine jj_iload_n F dX9_user_12 rfl ?_
  refine jj_iconst F (v := nI 0) dX9_user_13 (by decide) ?_
  refine jj_iconst F (v := nI 4) dX9_user_14 (by decide) ?_
  refine jj_callSi (na := 3) F c_X9_within (gl_S mk_X9_91 vw_X9_within) rfl rfl rfl (by decide +kernel) ⟨Nat.le_of_ble_eq_true rfl, Nat.le_of_ble_eq_true rfl⟩ rfl rfl (Nat.le_of_ble_eq_true rfl) ⟨Nat.le_of_ble_eq_true rfl, Nat.le_of_ble_eq_true rfl⟩ dX9_user_15 (fun r15 M15 hp15 => ?_)
  obtain ⟨rfl, rfl⟩ := symm2 hp15
  refine jj_if_eq F (tgt := 25) dX9_user_18 (by decide) (fun h9 => absurd h9 (by rw [hy]; decide)) (fun _ => ?_)
  refine jj_iconst F (v := nI 0) dX9_user_21 (by decide) ?_
  refine jj_goto F (tgt := 26) dX9_user_22 (by decide) ?_
  refine jj_puti F p87 (by assumption) (by rfl) dX9_user_26 ?_
  refine jj_aload_n F dX9_user_29 rfl ?_
  refine jj_geti F g87 (by assumption) (by rfl) dX9_user_30 ?_
  rw [thr_0]
  refine jj_if_le F (tgt := 38) dX9_user_33 (by decide) (fun _ => ?_) (fun h9 => absurd (by decide) h9)
  refine jj_aload_n F dX9_user_38 rfl ?_
  refine jj_callVv (na := 0) F (c_X9_layNow (RelM_thr hM)) (gl_V mk_X9_201 vw_X9_layNow) rfl rfl rfl (by decide +kernel) ⟨Nat.le_of_ble_eq_true rfl, Nat.le_of_ble_eq_true rfl⟩ kM rfl rfl rfl (Nat.le_of_ble_eq_true rfl) ⟨Nat.le_of_ble_eq_true rfl, Nat.le_of_ble_eq_true rfl⟩ dX9_user_39 (fun MN hpN => ?_)
  have hD9 := Ld_lay (RelM_thr hM) hpN
  have hTN := Ld_tops hD9
  refine jj_aload_n F dX9_user_42 rfl ?_
  refine jj_iload_n F dX9_user_43 rfl ?_
  refine jj_iload_n F dX9_user_44 rfl ?_
  refine jj_callVi (na := 2) F (c_X9_userNow hD9 hu hw9 hWW) (gl_V mk_X9_295 vw_X9_userNow) rfl rfl rfl (by decide +kernel) ⟨Nat.le_of_ble_eq_true rfl, Nat.le_of_ble_eq_true rfl⟩ kM rfl rfl rfl (Nat.le_of_ble_eq_true rfl) ⟨Nat.le_of_ble_eq_true rfl, Nat.le_of_ble_eq_true rfl⟩ dX9_user_45 (fun r34 M34 hp34 => ?_)
  refine ret _ _ _ _ dX9_user_48 (by first | rfl | exact nar_z (by first | exact Or.inl rfl | exact Or.inr rfl | exact b2i_01 _ | assumption)) ?_
  refine ⟨hp34.1, hp34.2.1.1, Pub_thr (FrD_tr (FrD_of (Fr_lay hpN)) (FrD_of hp34.2.2))⟩
set_option maxRecDepth 100000 in
set_option maxHeartbeats 1000000 in
theorem m_holder_1 {l : Launch} {E : Ee} {M : Mm} {a : Ab} {W : Nat} (hM : RelM M a W) {x : Int32} (hw : wiB x (nI 0) (nI 255) = false) : CtI l E yX9_holder (.code yX9_holder cX9_holder 2 (some .int) :: gl) ({ frames := 3, cells := 0, slots := 0, locals := 73 } : Room) M [.ref (E.2.2 478), .int x] 0 0 (fun r M2 => r = nI 0 ∧ RelM M2 a W ∧ Pub M M2 1) := by
  refine ctI_of (L0 := [some (.ref (E.2.2 478)), some (.int x)]) (by decide) rfl (Nat.le_of_ble_eq_true rfl) rfl ?_
  intro Z hl hE hnl F ret
  subst hE
  have in_X9 : ∀ w ∈ u_ws RX9 TX9 33, w ∈ (.code yX9_holder cX9_holder 2 (some .int) :: gl) := fun w h => List.mem_cons_of_mem _ (lay_X9 w h)
  have g87 : FG Z 87 9 0 := fg_mk F (C := RX9) (T := TX9) (N := 33) in_X9 rfl (by decide) rfl (List.mem_cons_of_mem _ fk_X9_87)
  have p87 : FP Z 87 9 0 .int := fp_mk F (C := RX9) (T := TX9) (N := 33) in_X9 tyX9_ok nmX9 rfl (by decide) rfl (List.mem_cons_of_mem _ fk_X9_87) rfl (by decide +kernel)
  obtain ⟨⟨h60, ht, htk, hn, hop, hac, hun, hopk, ⟨u0, hu1, hu2, hu3⟩, C, hC, hCa⟩, ⟨hlk, hll, hlz⟩, hK, ⟨hln, hl40, htx⟩, L0, hL0⟩ := id hM
  have kM := kd_M
  have k479 := kd_479
  have k480 := kd_480
  have k481 := kd_481
  have k482 := kd_482
  have k483 := kd_483
  have k484 := kd_484
  have k485 := kd_485
  have k486 := kd_486
  have k487 := kd_487
  have k488 := kd_488
  have k489 := kd_489
  have k490 := kd_490
  have k491 := kd_491
  have k492 := kd_492
  have k493 := kd_493
  have k494 := kd_494
  have k495 := kd_495
  have k496 := kd_496
  have k497 := kd_497
  have k498 := kd_498
  have k499 := kd_499
  have k500 := kd_500
  have k501 := kd_501
  have k502 := kd_502
  have k503 := kd_503
  refine jj_aload_n F dX9_holder_0 rfl ?_
  refine jj_iload_n F dX9_holder_1 rfl ?_
  refine jj_callSi (na := 1) F c_X9_isCell (gl_S mk_X9_223 vw_X9_isCell) rfl rfl rfl (by decide +kernel) ⟨Nat.le_of_ble_eq_true rfl, Nat.le_of_ble_eq_true rfl⟩ rfl rfl (Nat.le_of_ble_eq_true rfl) ⟨Nat.le_of_ble_eq_true rfl, Nat.le_of_ble_eq_true rfl⟩ dX9_holder_2 (fun r2 M2 hp2 => ?_)
  obtain ⟨rfl, rfl⟩ := symm2 hp2
  refine jj_if_eq F (tgt := 12) dX9_holder_5 (by decide) (fun _ => ?_) (fun h9 => absurd (by rw [hw]; rfl) h9)
  refine jj_iconst F (v := nI 1) dX9_holder_12 (by decide) ?_
  refine jj_puti F p87 (by assumption) (by rfl) dX9_holder_13 ?_
  refine jj_aload_n F dX9_holder_16 rfl ?_
  refine jj_geti F g87 (by assumption) (by rfl) dX9_holder_17 ?_
  rw [thr_0]
  refine jj_if_le F (tgt := 27) dX9_holder_20 (by decide) (fun h9 => absurd h9 (by decide)) (fun _ => ?_)
  refine jj_iconst F (v := nI 0) dX9_holder_23 (by decide) ?_
  refine jj_goto F (tgt := 32) dX9_holder_24 (by decide) ?_
  refine ret _ _ _ _ dX9_holder_32 (by first | rfl | exact nar_z (by first | exact Or.inl rfl | exact Or.inr rfl | exact b2i_01 _ | assumption)) ?_
  exact ⟨rfl, RelM_thr hM, Pub_0⟩
set_option maxRecDepth 100000 in
set_option maxHeartbeats 1000000 in
theorem m_holder_0 {l : Launch} {E : Ee} {M : Mm} {a : Ab} {W : Nat} (hM : RelM M a W) {c : Nat} (hc : c < 256) : CtI l E yX9_holder (.code yX9_holder cX9_holder 2 (some .int) :: gl) ({ frames := 3, cells := 0, slots := 0, locals := 73 } : Room) M [.ref (E.2.2 478), .int (nI c)] 0 0 (fun r M2 => IsHol (a_lk a) c r ∧ RelM M2 a W ∧ Pub M M2 0) := by
  refine ctI_of (L0 := [some (.ref (E.2.2 478)), some (.int (nI c))]) (by decide) rfl (Nat.le_of_ble_eq_true rfl) rfl ?_
  intro Z hl hE hnl F ret
  subst hE
  have in_X9 : ∀ w ∈ u_ws RX9 TX9 33, w ∈ (.code yX9_holder cX9_holder 2 (some .int) :: gl) := fun w h => List.mem_cons_of_mem _ (lay_X9 w h)
  have g87 : FG Z 87 9 0 := fg_mk F (C := RX9) (T := TX9) (N := 33) in_X9 rfl (by decide) rfl (List.mem_cons_of_mem _ fk_X9_87)
  have p87 : FP Z 87 9 0 .int := fp_mk F (C := RX9) (T := TX9) (N := 33) in_X9 tyX9_ok nmX9 rfl (by decide) rfl (List.mem_cons_of_mem _ fk_X9_87) rfl (by decide +kernel)
  obtain ⟨⟨h60, ht, htk, hn, hop, hac, hun, hopk, ⟨u0, hu1, hu2, hu3⟩, C, hC, hCa⟩, ⟨hlk, hll, hlz⟩, hK, ⟨hln, hl40, htx⟩, L0, hL0⟩ := id hM
  have kM := kd_M
  have k479 := kd_479
  have k480 := kd_480
  have k481 := kd_481
  have k482 := kd_482
  have k483 := kd_483
  have k484 := kd_484
  have k485 := kd_485
  have k486 := kd_486
  have k487 := kd_487
  have k488 := kd_488
  have k489 := kd_489
  have k490 := kd_490
  have k491 := kd_491
  have k492 := kd_492
  have k493 := kd_493
  have k494 := kd_494
  have k495 := kd_495
  have k496 := kd_496
  have k497 := kd_497
  have k498 := kd_498
  have k499 := kd_499
  have k500 := kd_500
  have k501 := kd_501
  have k502 := kd_502
  have k503 := kd_503
  have hw := wi_ok (lo := 0) (c := c) (hi := 255) (by omega) (by omega) (by omega)
  have hmlh := ml_h hM.2.1
  refine jj_aload_n F dX9_holder_0 rfl ?_
  refine jj_iload_n F dX9_holder_1 rfl ?_
  refine jj_callSi (na := 1) F c_X9_isCell (gl_S mk_X9_223 vw_X9_isCell) rfl rfl rfl (by decide +kernel) ⟨Nat.le_of_ble_eq_true rfl, Nat.le_of_ble_eq_true rfl⟩ rfl rfl (Nat.le_of_ble_eq_true rfl) ⟨Nat.le_of_ble_eq_true rfl, Nat.le_of_ble_eq_true rfl⟩ dX9_holder_2 (fun r2 M2 hp2 => ?_)
  obtain ⟨rfl, rfl⟩ := symm2 hp2
  refine jj_if_eq F (tgt := 12) dX9_holder_5 (by decide) (fun h9 => absurd h9 (by rw [hw]; decide)) (fun _ => ?_)
  refine jj_iconst F (v := nI 0) dX9_holder_8 (by decide) ?_
  refine jj_goto F (tgt := 13) dX9_holder_9 (by decide) ?_
  refine jj_puti F p87 (by assumption) (by rfl) dX9_holder_13 ?_
  refine jj_aload_n F dX9_holder_16 rfl ?_
  refine jj_geti F g87 (by assumption) (by rfl) dX9_holder_17 ?_
  rw [thr_0]
  refine jj_if_le F (tgt := 27) dX9_holder_20 (by decide) (fun _ => ?_) (fun h9 => absurd (by decide) h9)
  refine jj_aload_n F dX9_holder_27 rfl ?_
  refine jj_iload_n F dX9_holder_28 rfl ?_
  refine jj_callVi (na := 1) F (c_X9_holderOf (M := thr M (nI 0)) (us := fun j => (lkD (a_lk a) j).1) (fa := fun j => (lkD (a_lk a) j).2.1) (la := fun j => (lkD (a_lk a) j).2.2.1) hll hlk.1 hmlh hc) (gl_V mk_X9_241 vw_X9_holderOf) rfl rfl rfl (by decide +kernel) ⟨Nat.le_of_ble_eq_true rfl, Nat.le_of_ble_eq_true rfl⟩ kM rfl rfl rfl (Nat.le_of_ble_eq_true rfl) ⟨Nat.le_of_ble_eq_true rfl, Nat.le_of_ble_eq_true rfl⟩ dX9_holder_29 (fun r29 M29 hp29 => ?_)
  obtain ⟨rfl, rfl⟩ := symm2 hp29
  refine ret _ _ _ _ dX9_holder_32 (by first | rfl | exact nar_z (by first | exact Or.inl rfl | exact Or.inr rfl | exact b2i_01 _ | assumption)) ?_
  refine ⟨?_, RelM_thr hM, Pub_0⟩
  exact ho_is (RelM_thr hM).2.1
set_option maxRecDepth 100000 in
set_option maxHeartbeats 1000000 in
theorem m_replay_1a {l : Launch} {E : Ee} {M : Mm} {a : Ab} {W : Nat} (hM : RelM M a W) {x y : Int32} (hw : wiB x (nI 0) (nI 5) = false) : CtI l E yX9_replay (.code yX9_replay cX9_replay 3 (some .int) :: gl) ({ frames := 4, cells := 0, slots := 0, locals := 95 } : Room) M [.ref (E.2.2 478), .int x, .int y] 0 0 (fun r M2 => r = nI 0 ∧ RelM M2 a W ∧ Pub M M2 1) := by
  refine ctI_of (L0 := [some (.ref (E.2.2 478)), some (.int x), some (.int y)]) (by decide) rfl (Nat.le_of_ble_eq_true rfl) rfl ?_
  intro Z hl hE hnl F ret
  subst hE
  have in_X9 : ∀ w ∈ u_ws RX9 TX9 33, w ∈ (.code yX9_replay cX9_replay 3 (some .int) :: gl) := fun w h => List.mem_cons_of_mem _ (lay_X9 w h)
  have g60 : FG Z 60 9 21 := fg_mk F (C := RX9) (T := TX9) (N := 33) in_X9 rfl (by decide) rfl (List.mem_cons_of_mem _ fk_X9_60)
  have g87 : FG Z 87 9 0 := fg_mk F (C := RX9) (T := TX9) (N := 33) in_X9 rfl (by decide) rfl (List.mem_cons_of_mem _ fk_X9_87)
  have p87 : FP Z 87 9 0 .int := fp_mk F (C := RX9) (T := TX9) (N := 33) in_X9 tyX9_ok nmX9 rfl (by decide) rfl (List.mem_cons_of_mem _ fk_X9_87) rfl (by decide +kernel)
  obtain ⟨⟨h60, ht, htk, hn, hop, hac, hun, hopk, ⟨u0, hu1, hu2, hu3⟩, C, hC, hCa⟩, ⟨hlk, hll, hlz⟩, hK, ⟨hln, hl40, htx⟩, L0, hL0⟩ := id hM
  have kM := kd_M
  have k479 := kd_479
  have k480 := kd_480
  have k481 := kd_481
  have k482 := kd_482
  have k483 := kd_483
  have k484 := kd_484
  have k485 := kd_485
  have k486 := kd_486
  have k487 := kd_487
  have k488 := kd_488
  have k489 := kd_489
  have k490 := kd_490
  have k491 := kd_491
  have k492 := kd_492
  have k493 := kd_493
  have k494 := kd_494
  have k495 := kd_495
  have k496 := kd_496
  have k497 := kd_497
  have k498 := kd_498
  have k499 := kd_499
  have k500 := kd_500
  have k501 := kd_501
  have k502 := kd_502
  have k503 := kd_503
  refine jj_aload_n F dX9_replay_0 rfl ?_
  refine jj_iload_n F dX9_replay_1 rfl ?_
  refine jj_callSi (na := 1) F c_X9_isMark (gl_S mk_X9_244 vw_X9_isMark) rfl rfl rfl (by decide +kernel) ⟨Nat.le_of_ble_eq_true rfl, Nat.le_of_ble_eq_true rfl⟩ rfl rfl (Nat.le_of_ble_eq_true rfl) ⟨Nat.le_of_ble_eq_true rfl, Nat.le_of_ble_eq_true rfl⟩ dX9_replay_2 (fun r2 M2 hp2 => ?_)
  obtain ⟨rfl, rfl⟩ := symm2 hp2
  refine jj_if_eq F (tgt := 15) dX9_replay_5 (by decide) (fun _ => ?_) (fun h9 => absurd (by rw [hw]; rfl) h9)
  refine jj_iconst F (v := nI 1) dX9_replay_15 (by decide) ?_
  refine jj_goto F (tgt := 33) dX9_replay_16 (by decide) ?_
  refine jj_puti F p87 (by assumption) (by rfl) dX9_replay_33 ?_
  refine jj_aload_n F dX9_replay_36 rfl ?_
  refine jj_geti F g87 (by assumption) (by rfl) dX9_replay_37 ?_
  rw [thr_0]
  refine jj_if_le F (tgt := 45) dX9_replay_40 (by decide) (fun h9 => absurd h9 (by decide)) (fun _ => ?_)
  refine jj_iconst F (v := nI 0) dX9_replay_43 (by decide) ?_
  refine ret _ _ _ _ dX9_replay_44 (by first | rfl | exact nar_z (by first | exact Or.inl rfl | exact Or.inr rfl | exact b2i_01 _ | assumption)) ?_
  exact ⟨rfl, RelM_thr hM, Pub_0⟩
set_option maxRecDepth 100000 in
set_option maxHeartbeats 1000000 in
theorem m_replay_1b {l : Launch} {E : Ee} {M : Mm} {a : Ab} {W : Nat} (hM : RelM M a W) {m : Nat} {y : Int32} (hm : m < 6) (hy : wiB y (nI 0) (nI 255) = false) : CtI l E yX9_replay (.code yX9_replay cX9_replay 3 (some .int) :: gl) ({ frames := 4, cells := 0, slots := 0, locals := 95 } : Room) M [.ref (E.2.2 478), .int (nI m), .int y] 0 0 (fun r M2 => r = nI 0 ∧ RelM M2 a W ∧ Pub M M2 1) := by
  refine ctI_of (L0 := [some (.ref (E.2.2 478)), some (.int (nI m)), some (.int y)]) (by decide) rfl (Nat.le_of_ble_eq_true rfl) rfl ?_
  intro Z hl hE hnl F ret
  subst hE
  have in_X9 : ∀ w ∈ u_ws RX9 TX9 33, w ∈ (.code yX9_replay cX9_replay 3 (some .int) :: gl) := fun w h => List.mem_cons_of_mem _ (lay_X9 w h)
  have g60 : FG Z 60 9 21 := fg_mk F (C := RX9) (T := TX9) (N := 33) in_X9 rfl (by decide) rfl (List.mem_cons_of_mem _ fk_X9_60)
  have g87 : FG Z 87 9 0 := fg_mk F (C := RX9) (T := TX9) (N := 33) in_X9 rfl (by decide) rfl (List.mem_cons_of_mem _ fk_X9_87)
  have p87 : FP Z 87 9 0 .int := fp_mk F (C := RX9) (T := TX9) (N := 33) in_X9 tyX9_ok nmX9 rfl (by decide) rfl (List.mem_cons_of_mem _ fk_X9_87) rfl (by decide +kernel)
  obtain ⟨⟨h60, ht, htk, hn, hop, hac, hun, hopk, ⟨u0, hu1, hu2, hu3⟩, C, hC, hCa⟩, ⟨hlk, hll, hlz⟩, hK, ⟨hln, hl40, htx⟩, L0, hL0⟩ := id hM
  have kM := kd_M
  have k479 := kd_479
  have k480 := kd_480
  have k481 := kd_481
  have k482 := kd_482
  have k483 := kd_483
  have k484 := kd_484
  have k485 := kd_485
  have k486 := kd_486
  have k487 := kd_487
  have k488 := kd_488
  have k489 := kd_489
  have k490 := kd_490
  have k491 := kd_491
  have k492 := kd_492
  have k493 := kd_493
  have k494 := kd_494
  have k495 := kd_495
  have k496 := kd_496
  have k497 := kd_497
  have k498 := kd_498
  have k499 := kd_499
  have k500 := kd_500
  have k501 := kd_501
  have k502 := kd_502
  have k503 := kd_503
  have hw := wi_ok (lo := 0) (c := m) (hi := 5) (by omega) (by omega) (by omega)
  refine jj_aload_n F dX9_replay_0 rfl ?_
  refine jj_iload_n F dX9_replay_1 rfl ?_
  refine jj_callSi (na := 1) F c_X9_isMark (gl_S mk_X9_244 vw_X9_isMark) rfl rfl rfl (by decide +kernel) ⟨Nat.le_of_ble_eq_true rfl, Nat.le_of_ble_eq_true rfl⟩ rfl rfl (Nat.le_of_ble_eq_true rfl) ⟨Nat.le_of_ble_eq_true rfl, Nat.le_of_ble_eq_true rfl⟩ dX9_replay_2 (fun r2 M2 hp2 => ?_)
  obtain ⟨rfl, rfl⟩ := symm2 hp2
  refine jj_if_eq F (tgt := 15) dX9_replay_5 (by decide) (fun h9 => absurd h9 (by rw [hw]; decide)) (fun _ => ?_)
  refine jj_iload_n F dX9_replay_8 rfl ?_
  refine jj_callSi (na := 1) F c_X9_isCell (gl_S mk_X9_223 vw_X9_isCell) rfl rfl rfl (by decide +kernel) ⟨Nat.le_of_ble_eq_true rfl, Nat.le_of_ble_eq_true rfl⟩ rfl rfl (Nat.le_of_ble_eq_true rfl) ⟨Nat.le_of_ble_eq_true rfl, Nat.le_of_ble_eq_true rfl⟩ dX9_replay_9 (fun r9 M9 hp9 => ?_)
  obtain ⟨rfl, rfl⟩ := symm2 hp9
  refine jj_if_ne F (tgt := 19) dX9_replay_12 (by decide) (fun h9 => absurd h9 (fun z => z (by rw [hy]; rfl))) (fun _ => ?_)
  refine jj_iconst F (v := nI 1) dX9_replay_15 (by decide) ?_
  refine jj_goto F (tgt := 33) dX9_replay_16 (by decide) ?_
  refine jj_puti F p87 (by assumption) (by rfl) dX9_replay_33 ?_
  refine jj_aload_n F dX9_replay_36 rfl ?_
  refine jj_geti F g87 (by assumption) (by rfl) dX9_replay_37 ?_
  rw [thr_0]
  refine jj_if_le F (tgt := 45) dX9_replay_40 (by decide) (fun h9 => absurd h9 (by decide)) (fun _ => ?_)
  refine jj_iconst F (v := nI 0) dX9_replay_43 (by decide) ?_
  refine ret _ _ _ _ dX9_replay_44 (by first | rfl | exact nar_z (by first | exact Or.inl rfl | exact Or.inr rfl | exact b2i_01 _ | assumption)) ?_
  exact ⟨rfl, RelM_thr hM, Pub_0⟩
set_option maxRecDepth 100000 in
set_option maxHeartbeats 1000000 in
theorem m_replay_2 {l : Launch} {E : Ee} {M : Mm} {a : Ab} {W : Nat} (hM : RelM M a W) {m c : Nat} (hm : m < 6) (hc : c < 256) (hs : (a_mk a m).1 = false) : CtI l E yX9_replay (.code yX9_replay cX9_replay 3 (some .int) :: gl) ({ frames := 4, cells := 0, slots := 0, locals := 95 } : Room) M [.ref (E.2.2 478), .int (nI m), .int (nI c)] 0 0 (fun r M2 => r = nI 0 ∧ RelM M2 a W ∧ Pub M M2 2) := by
  refine ctI_of (L0 := [some (.ref (E.2.2 478)), some (.int (nI m)), some (.int (nI c))]) (by decide) rfl (Nat.le_of_ble_eq_true rfl) rfl ?_
  intro Z hl hE hnl F ret
  subst hE
  have in_X9 : ∀ w ∈ u_ws RX9 TX9 33, w ∈ (.code yX9_replay cX9_replay 3 (some .int) :: gl) := fun w h => List.mem_cons_of_mem _ (lay_X9 w h)
  have g60 : FG Z 60 9 21 := fg_mk F (C := RX9) (T := TX9) (N := 33) in_X9 rfl (by decide) rfl (List.mem_cons_of_mem _ fk_X9_60)
  have g87 : FG Z 87 9 0 := fg_mk F (C := RX9) (T := TX9) (N := 33) in_X9 rfl (by decide) rfl (List.mem_cons_of_mem _ fk_X9_87)
  have p87 : FP Z 87 9 0 .int := fp_mk F (C := RX9) (T := TX9) (N := 33) in_X9 tyX9_ok nmX9 rfl (by decide) rfl (List.mem_cons_of_mem _ fk_X9_87) rfl (by decide +kernel)
  obtain ⟨⟨h60, ht, htk, hn, hop, hac, hun, hopk, ⟨u0, hu1, hu2, hu3⟩, C, hC, hCa⟩, ⟨hlk, hll, hlz⟩, hK, ⟨hln, hl40, htx⟩, L0, hL0⟩ := id hM
  have kM := kd_M
  have k479 := kd_479
  have k480 := kd_480
  have k481 := kd_481
  have k482 := kd_482
  have k483 := kd_483
  have k484 := kd_484
  have k485 := kd_485
  have k486 := kd_486
  have k487 := kd_487
  have k488 := kd_488
  have k489 := kd_489
  have k490 := kd_490
  have k491 := kd_491
  have k492 := kd_492
  have k493 := kd_493
  have k494 := kd_494
  have k495 := kd_495
  have k496 := kd_496
  have k497 := kd_497
  have k498 := kd_498
  have k499 := kd_499
  have k500 := kd_500
  have k501 := kd_501
  have k502 := kd_502
  have k503 := kd_503
  have hw := wi_ok (lo := 0) (c := m) (hi := 5) (by omega) (by omega) (by omega)
  have hy := wi_ok (lo := 0) (c := c) (hi := 255) (by omega) (by omega) (by omega)
  refine jj_aload_n F dX9_replay_0 rfl ?_
  refine jj_iload_n F dX9_replay_1 rfl ?_
  refine jj_callSi (na := 1) F c_X9_isMark (gl_S mk_X9_244 vw_X9_isMark) rfl rfl rfl (by decide +kernel) ⟨Nat.le_of_ble_eq_true rfl, Nat.le_of_ble_eq_true rfl⟩ rfl rfl (Nat.le_of_ble_eq_true rfl) ⟨Nat.le_of_ble_eq_true rfl, Nat.le_of_ble_eq_true rfl⟩ dX9_replay_2 (fun r2 M2 hp2 => ?_)
  obtain ⟨rfl, rfl⟩ := symm2 hp2
  refine jj_if_eq F (tgt := 15) dX9_replay_5 (by decide) (fun h9 => absurd h9 (by rw [hw]; decide)) (fun _ => ?_)
  refine jj_iload_n F dX9_replay_8 rfl ?_
  refine jj_callSi (na := 1) F c_X9_isCell (gl_S mk_X9_223 vw_X9_isCell) rfl rfl rfl (by decide +kernel) ⟨Nat.le_of_ble_eq_true rfl, Nat.le_of_ble_eq_true rfl⟩ rfl rfl (Nat.le_of_ble_eq_true rfl) ⟨Nat.le_of_ble_eq_true rfl, Nat.le_of_ble_eq_true rfl⟩ dX9_replay_9 (fun r9 M9 hp9 => ?_)
  obtain ⟨rfl, rfl⟩ := symm2 hp9
  refine jj_if_ne F (tgt := 19) dX9_replay_12 (by decide) (fun _ => ?_) (fun h9 => absurd h9 (by rw [hy]; decide))
  refine jj_aload_n F dX9_replay_19 rfl ?_
  refine jj_getr F g60 (by assumption) (by rfl) dX9_replay_20 ?_
  refine jj_iload_n F dX9_replay_23 rfl ?_
  refine jj_zald F (by assumption) rfl (by omega) dX9_replay_24 ?_
  rw [(hK m hm).1]
  refine jj_if_eq F (tgt := 32) dX9_replay_25 (by decide) (fun _ => ?_) (fun h9 => absurd (by rw [hs]; rfl) h9)
  refine jj_iconst F (v := nI 2) dX9_replay_32 (by decide) ?_
  refine jj_puti F p87 (by assumption) (by rfl) dX9_replay_33 ?_
  refine jj_aload_n F dX9_replay_36 rfl ?_
  refine jj_geti F g87 (by assumption) (by rfl) dX9_replay_37 ?_
  rw [thr_0]
  refine jj_if_le F (tgt := 45) dX9_replay_40 (by decide) (fun h9 => absurd h9 (by decide)) (fun _ => ?_)
  refine jj_iconst F (v := nI 0) dX9_replay_43 (by decide) ?_
  refine ret _ _ _ _ dX9_replay_44 (by first | rfl | exact nar_z (by first | exact Or.inl rfl | exact Or.inr rfl | exact b2i_01 _ | assumption)) ?_
  exact ⟨rfl, RelM_thr hM, Pub_0⟩
set_option maxRecDepth 100000 in
set_option maxHeartbeats 1000000 in
theorem m_replay_0 {l : Launch} {E : Ee} {M : Mm} {a : Ab} {W : Nat} (hM : RelM M a W) {m c : Nat} (hm : m < 6) (hc : c < 256) (hs : (a_mk a m).1 = true) : CtI l E yX9_replay (.code yX9_replay cX9_replay 3 (some .int) :: gl) ({ frames := 4, cells := 0, slots := 0, locals := 95 } : Room) M [.ref (E.2.2 478), .int (nI m), .int (nI c)] 0 0 (fun r M2 => r = mcA a m c ∧ RelM M2 a W ∧ Pub M M2 0) := by
  refine ctI_of (L0 := [some (.ref (E.2.2 478)), some (.int (nI m)), some (.int (nI c))]) (by decide) rfl (Nat.le_of_ble_eq_true rfl) rfl ?_
  intro Z hl hE hnl F ret
  subst hE
  have in_X9 : ∀ w ∈ u_ws RX9 TX9 33, w ∈ (.code yX9_replay cX9_replay 3 (some .int) :: gl) := fun w h => List.mem_cons_of_mem _ (lay_X9 w h)
  have g60 : FG Z 60 9 21 := fg_mk F (C := RX9) (T := TX9) (N := 33) in_X9 rfl (by decide) rfl (List.mem_cons_of_mem _ fk_X9_60)
  have g87 : FG Z 87 9 0 := fg_mk F (C := RX9) (T := TX9) (N := 33) in_X9 rfl (by decide) rfl (List.mem_cons_of_mem _ fk_X9_87)
  have p87 : FP Z 87 9 0 .int := fp_mk F (C := RX9) (T := TX9) (N := 33) in_X9 tyX9_ok nmX9 rfl (by decide) rfl (List.mem_cons_of_mem _ fk_X9_87) rfl (by decide +kernel)
  obtain ⟨⟨h60, ht, htk, hn, hop, hac, hun, hopk, ⟨u0, hu1, hu2, hu3⟩, C, hC, hCa⟩, ⟨hlk, hll, hlz⟩, hK, ⟨hln, hl40, htx⟩, L0, hL0⟩ := id hM
  have kM := kd_M
  have k479 := kd_479
  have k480 := kd_480
  have k481 := kd_481
  have k482 := kd_482
  have k483 := kd_483
  have k484 := kd_484
  have k485 := kd_485
  have k486 := kd_486
  have k487 := kd_487
  have k488 := kd_488
  have k489 := kd_489
  have k490 := kd_490
  have k491 := kd_491
  have k492 := kd_492
  have k493 := kd_493
  have k494 := kd_494
  have k495 := kd_495
  have k496 := kd_496
  have k497 := kd_497
  have k498 := kd_498
  have k499 := kd_499
  have k500 := kd_500
  have k501 := kd_501
  have k502 := kd_502
  have k503 := kd_503
  have hw := wi_ok (lo := 0) (c := m) (hi := 5) (by omega) (by omega) (by omega)
  have hy := wi_ok (lo := 0) (c := c) (hi := 255) (by omega) (by omega) (by omega)
  refine jj_aload_n F dX9_replay_0 rfl ?_
  refine jj_iload_n F dX9_replay_1 rfl ?_
  refine jj_callSi (na := 1) F c_X9_isMark (gl_S mk_X9_244 vw_X9_isMark) rfl rfl rfl (by decide +kernel) ⟨Nat.le_of_ble_eq_true rfl, Nat.le_of_ble_eq_true rfl⟩ rfl rfl (Nat.le_of_ble_eq_true rfl) ⟨Nat.le_of_ble_eq_true rfl, Nat.le_of_ble_eq_true rfl⟩ dX9_replay_2 (fun r2 M2 hp2 => ?_)
  obtain ⟨rfl, rfl⟩ := symm2 hp2
  refine jj_if_eq F (tgt := 15) dX9_replay_5 (by decide) (fun h9 => absurd h9 (by rw [hw]; decide)) (fun _ => ?_)
  refine jj_iload_n F dX9_replay_8 rfl ?_
  refine jj_callSi (na := 1) F c_X9_isCell (gl_S mk_X9_223 vw_X9_isCell) rfl rfl rfl (by decide +kernel) ⟨Nat.le_of_ble_eq_true rfl, Nat.le_of_ble_eq_true rfl⟩ rfl rfl (Nat.le_of_ble_eq_true rfl) ⟨Nat.le_of_ble_eq_true rfl, Nat.le_of_ble_eq_true rfl⟩ dX9_replay_9 (fun r9 M9 hp9 => ?_)
  obtain ⟨rfl, rfl⟩ := symm2 hp9
  refine jj_if_ne F (tgt := 19) dX9_replay_12 (by decide) (fun _ => ?_) (fun h9 => absurd h9 (by rw [hy]; decide))
  refine jj_aload_n F dX9_replay_19 rfl ?_
  refine jj_getr F g60 (by assumption) (by rfl) dX9_replay_20 ?_
  refine jj_iload_n F dX9_replay_23 rfl ?_
  refine jj_zald F (by assumption) rfl (by omega) dX9_replay_24 ?_
  rw [(hK m hm).1]
  refine jj_if_eq F (tgt := 32) dX9_replay_25 (by decide) (fun h9 => absurd h9 (by rw [hs]; decide)) (fun _ => ?_)
  refine jj_iconst F (v := nI 0) dX9_replay_28 (by decide) ?_
  refine jj_goto F (tgt := 33) dX9_replay_29 (by decide) ?_
  refine jj_puti F p87 (by assumption) (by rfl) dX9_replay_33 ?_
  refine jj_aload_n F dX9_replay_36 rfl ?_
  refine jj_geti F g87 (by assumption) (by rfl) dX9_replay_37 ?_
  rw [thr_0]
  refine jj_if_le F (tgt := 45) dX9_replay_40 (by decide) (fun _ => ?_) (fun h9 => absurd (by decide) h9)
  refine jj_aload_n F dX9_replay_45 rfl ?_
  refine jj_iload_n F dX9_replay_46 rfl ?_
  refine jj_callVv (na := 1) F (c_X9_layMark (RelM_thr hM) hm hs) (gl_V mk_X9_250 vw_X9_layMark) rfl rfl rfl (by decide +kernel) ⟨Nat.le_of_ble_eq_true rfl, Nat.le_of_ble_eq_true rfl⟩ kM rfl rfl rfl (Nat.le_of_ble_eq_true rfl) ⟨Nat.le_of_ble_eq_true rfl, Nat.le_of_ble_eq_true rfl⟩ dX9_replay_47 (fun MN hpN => ?_)
  have hk2 := ((hK m hm).2 hs).2.1
  have hTN := topsOk_lay (by omega) hpN
  refine jj_aload_n F dX9_replay_50 rfl ?_
  refine jj_iload_n F dX9_replay_51 rfl ?_
  refine jj_callVi (na := 1) F (c_X9_shown hTN hc) (gl_V mk_X9_132 vw_X9_shown) rfl rfl rfl (by decide +kernel) ⟨Nat.le_of_ble_eq_true rfl, Nat.le_of_ble_eq_true rfl⟩ kM rfl rfl rfl (Nat.le_of_ble_eq_true rfl) ⟨Nat.le_of_ble_eq_true rfl, Nat.le_of_ble_eq_true rfl⟩ dX9_replay_52 (fun r52 M52 hp52 => ?_)
  obtain ⟨rfl, rfl⟩ := symm2 hp52
  refine ret _ _ _ _ dX9_replay_55 (by first | rfl | exact nar_z (by first | exact Or.inl rfl | exact Or.inr rfl | exact b2i_01 _ | assumption)) ?_
  refine ⟨shF_lay (RelM_thr hM) hk2 hpN hc, RelM_lay (RelM_thr hM) hpN, Pub_thr (FrD_of (Fr_lay hpN))⟩
set_option maxRecDepth 100000 in
set_option maxHeartbeats 1000000 in
theorem m_difference_1 {l : Launch} {E : Ee} {M : Mm} {a : Ab} {W : Nat} (hM : RelM M a W) {x : Int32} (hw : wiB x (nI 0) (nI 5) = false) : CtI l E yX9_difference (.code yX9_difference cX9_difference 2 (some .int) :: gl) ({ frames := 6, cells := 0, slots := 0, locals := 136 } : Room) M [.ref (E.2.2 478), .int x] 0 0 (fun r M2 => r = nI 0 ∧ RelM M2 a W ∧ Pub M M2 1) := by
  refine ctI_of (L0 := [some (.ref (E.2.2 478)), some (.int x)]) (by decide) rfl (Nat.le_of_ble_eq_true rfl) rfl ?_
  intro Z hl hE hnl F ret
  subst hE
  have in_X9 : ∀ w ∈ u_ws RX9 TX9 33, w ∈ (.code yX9_difference cX9_difference 2 (some .int) :: gl) := fun w h => List.mem_cons_of_mem _ (lay_X9 w h)
  have g60 : FG Z 60 9 21 := fg_mk F (C := RX9) (T := TX9) (N := 33) in_X9 rfl (by decide) rfl (List.mem_cons_of_mem _ fk_X9_60)
  have g87 : FG Z 87 9 0 := fg_mk F (C := RX9) (T := TX9) (N := 33) in_X9 rfl (by decide) rfl (List.mem_cons_of_mem _ fk_X9_87)
  have p87 : FP Z 87 9 0 .int := fp_mk F (C := RX9) (T := TX9) (N := 33) in_X9 tyX9_ok nmX9 rfl (by decide) rfl (List.mem_cons_of_mem _ fk_X9_87) rfl (by decide +kernel)
  obtain ⟨⟨h60, ht, htk, hn, hop, hac, hun, hopk, ⟨u0, hu1, hu2, hu3⟩, C, hC, hCa⟩, ⟨hlk, hll, hlz⟩, hK, ⟨hln, hl40, htx⟩, L0, hL0⟩ := id hM
  have kM := kd_M
  have k479 := kd_479
  have k480 := kd_480
  have k481 := kd_481
  have k482 := kd_482
  have k483 := kd_483
  have k484 := kd_484
  have k485 := kd_485
  have k486 := kd_486
  have k487 := kd_487
  have k488 := kd_488
  have k489 := kd_489
  have k490 := kd_490
  have k491 := kd_491
  have k492 := kd_492
  have k493 := kd_493
  have k494 := kd_494
  have k495 := kd_495
  have k496 := kd_496
  have k497 := kd_497
  have k498 := kd_498
  have k499 := kd_499
  have k500 := kd_500
  have k501 := kd_501
  have k502 := kd_502
  have k503 := kd_503
  refine jj_aload_n F dX9_difference_0 rfl ?_
  refine jj_iload_n F dX9_difference_1 rfl ?_
  refine jj_callSi (na := 1) F c_X9_isMark (gl_S mk_X9_244 vw_X9_isMark) rfl rfl rfl (by decide +kernel) ⟨Nat.le_of_ble_eq_true rfl, Nat.le_of_ble_eq_true rfl⟩ rfl rfl (Nat.le_of_ble_eq_true rfl) ⟨Nat.le_of_ble_eq_true rfl, Nat.le_of_ble_eq_true rfl⟩ dX9_difference_2 (fun r2 M2 hp2 => ?_)
  obtain ⟨rfl, rfl⟩ := symm2 hp2
  refine jj_if_ne F (tgt := 12) dX9_difference_5 (by decide) (fun h9 => absurd h9 (fun z => z (by rw [hw]; rfl))) (fun _ => ?_)
  refine jj_iconst F (v := nI 1) dX9_difference_8 (by decide) ?_
  refine jj_goto F (tgt := 26) dX9_difference_9 (by decide) ?_
  refine jj_puti F p87 (by assumption) (by rfl) dX9_difference_26 ?_
  refine jj_aload_n F dX9_difference_29 rfl ?_
  refine jj_geti F g87 (by assumption) (by rfl) dX9_difference_30 ?_
  rw [thr_0]
  refine jj_if_le F (tgt := 40) dX9_difference_33 (by decide) (fun h9 => absurd h9 (by decide)) (fun _ => ?_)
  refine jj_iconst F (v := nI 0) dX9_difference_36 (by decide) ?_
  refine jj_goto F (tgt := 45) dX9_difference_37 (by decide) ?_
  refine ret _ _ _ _ dX9_difference_45 (by first | rfl | exact nar_z (by first | exact Or.inl rfl | exact Or.inr rfl | exact b2i_01 _ | assumption)) ?_
  exact ⟨rfl, RelM_thr hM, Pub_0⟩
set_option maxRecDepth 100000 in
set_option maxHeartbeats 1000000 in
theorem m_difference_2 {l : Launch} {E : Ee} {M : Mm} {a : Ab} {W : Nat} (hM : RelM M a W) {m : Nat} (hm : m < 6) (hs : (a_mk a m).1 = false) : CtI l E yX9_difference (.code yX9_difference cX9_difference 2 (some .int) :: gl) ({ frames := 6, cells := 0, slots := 0, locals := 136 } : Room) M [.ref (E.2.2 478), .int (nI m)] 0 0 (fun r M2 => r = nI 0 ∧ RelM M2 a W ∧ Pub M M2 2) := by
  refine ctI_of (L0 := [some (.ref (E.2.2 478)), some (.int (nI m))]) (by decide) rfl (Nat.le_of_ble_eq_true rfl) rfl ?_
  intro Z hl hE hnl F ret
  subst hE
  have in_X9 : ∀ w ∈ u_ws RX9 TX9 33, w ∈ (.code yX9_difference cX9_difference 2 (some .int) :: gl) := fun w h => List.mem_cons_of_mem _ (lay_X9 w h)
  have g60 : FG Z 60 9 21 := fg_mk F (C := RX9) (T := TX9) (N := 33) in_X9 rfl (by decide) rfl (List.mem_cons_of_mem _ fk_X9_60)
  have g87 : FG Z 87 9 0 := fg_mk F (C := RX9) (T := TX9) (N := 33) in_X9 rfl (by decide) rfl (List.mem_cons_of_mem _ fk_X9_87)
  have p87 : FP Z 87 9 0 .int := fp_mk F (C := RX9) (T := TX9) (N := 33) in_X9 tyX9_ok nmX9 rfl (by decide) rfl (List.mem_cons_of_mem _ fk_X9_87) rfl (by decide +kernel)
  obtain ⟨⟨h60, ht, htk, hn, hop, hac, hun, hopk, ⟨u0, hu1, hu2, hu3⟩, C, hC, hCa⟩, ⟨hlk, hll, hlz⟩, hK, ⟨hln, hl40, htx⟩, L0, hL0⟩ := id hM
  have kM := kd_M
  have k479 := kd_479
  have k480 := kd_480
  have k481 := kd_481
  have k482 := kd_482
  have k483 := kd_483
  have k484 := kd_484
  have k485 := kd_485
  have k486 := kd_486
  have k487 := kd_487
  have k488 := kd_488
  have k489 := kd_489
  have k490 := kd_490
  have k491 := kd_491
  have k492 := kd_492
  have k493 := kd_493
  have k494 := kd_494
  have k495 := kd_495
  have k496 := kd_496
  have k497 := kd_497
  have k498 := kd_498
  have k499 := kd_499
  have k500 := kd_500
  have k501 := kd_501
  have k502 := kd_502
  have k503 := kd_503
  have hw := wi_ok (lo := 0) (c := m) (hi := 5) (by omega) (by omega) (by omega)
  refine jj_aload_n F dX9_difference_0 rfl ?_
  refine jj_iload_n F dX9_difference_1 rfl ?_
  refine jj_callSi (na := 1) F c_X9_isMark (gl_S mk_X9_244 vw_X9_isMark) rfl rfl rfl (by decide +kernel) ⟨Nat.le_of_ble_eq_true rfl, Nat.le_of_ble_eq_true rfl⟩ rfl rfl (Nat.le_of_ble_eq_true rfl) ⟨Nat.le_of_ble_eq_true rfl, Nat.le_of_ble_eq_true rfl⟩ dX9_difference_2 (fun r2 M2 hp2 => ?_)
  obtain ⟨rfl, rfl⟩ := symm2 hp2
  refine jj_if_ne F (tgt := 12) dX9_difference_5 (by decide) (fun _ => ?_) (fun h9 => absurd h9 (by rw [hw]; decide))
  refine jj_aload_n F dX9_difference_12 rfl ?_
  refine jj_getr F g60 (by assumption) (by rfl) dX9_difference_13 ?_
  refine jj_iload_n F dX9_difference_16 rfl ?_
  refine jj_zald F (by assumption) rfl (by omega) dX9_difference_17 ?_
  rw [(hK m hm).1]
  refine jj_if_eq F (tgt := 25) dX9_difference_18 (by decide) (fun _ => ?_) (fun h9 => absurd (by rw [hs]; rfl) h9)
  refine jj_iconst F (v := nI 2) dX9_difference_25 (by decide) ?_
  refine jj_puti F p87 (by assumption) (by rfl) dX9_difference_26 ?_
  refine jj_aload_n F dX9_difference_29 rfl ?_
  refine jj_geti F g87 (by assumption) (by rfl) dX9_difference_30 ?_
  rw [thr_0]
  refine jj_if_le F (tgt := 40) dX9_difference_33 (by decide) (fun h9 => absurd h9 (by decide)) (fun _ => ?_)
  refine jj_iconst F (v := nI 0) dX9_difference_36 (by decide) ?_
  refine jj_goto F (tgt := 45) dX9_difference_37 (by decide) ?_
  refine ret _ _ _ _ dX9_difference_45 (by first | rfl | exact nar_z (by first | exact Or.inl rfl | exact Or.inr rfl | exact b2i_01 _ | assumption)) ?_
  exact ⟨rfl, RelM_thr hM, Pub_0⟩
set_option maxRecDepth 100000 in
set_option maxHeartbeats 1000000 in
theorem m_difference_0 {l : Launch} {E : Ee} {M : Mm} {a : Ab} {W : Nat} (hM : RelM M a W) {m : Nat} (hm : m < 6) (hs : (a_mk a m).1 = true) : CtI l E yX9_difference (.code yX9_difference cX9_difference 2 (some .int) :: gl) ({ frames := 6, cells := 0, slots := 0, locals := 136 } : Room) M [.ref (E.2.2 478), .int (nI m)] 0 0 (fun r M2 => r = nI (dfC (clA a) (mcA a m)) ∧ RelM M2 a W ∧ Pub M M2 0) := by
  refine ctI_of (L0 := [some (.ref (E.2.2 478)), some (.int (nI m))]) (by decide) rfl (Nat.le_of_ble_eq_true rfl) rfl ?_
  intro Z hl hE hnl F ret
  subst hE
  have in_X9 : ∀ w ∈ u_ws RX9 TX9 33, w ∈ (.code yX9_difference cX9_difference 2 (some .int) :: gl) := fun w h => List.mem_cons_of_mem _ (lay_X9 w h)
  have g60 : FG Z 60 9 21 := fg_mk F (C := RX9) (T := TX9) (N := 33) in_X9 rfl (by decide) rfl (List.mem_cons_of_mem _ fk_X9_60)
  have g87 : FG Z 87 9 0 := fg_mk F (C := RX9) (T := TX9) (N := 33) in_X9 rfl (by decide) rfl (List.mem_cons_of_mem _ fk_X9_87)
  have p87 : FP Z 87 9 0 .int := fp_mk F (C := RX9) (T := TX9) (N := 33) in_X9 tyX9_ok nmX9 rfl (by decide) rfl (List.mem_cons_of_mem _ fk_X9_87) rfl (by decide +kernel)
  obtain ⟨⟨h60, ht, htk, hn, hop, hac, hun, hopk, ⟨u0, hu1, hu2, hu3⟩, C, hC, hCa⟩, ⟨hlk, hll, hlz⟩, hK, ⟨hln, hl40, htx⟩, L0, hL0⟩ := id hM
  have kM := kd_M
  have k479 := kd_479
  have k480 := kd_480
  have k481 := kd_481
  have k482 := kd_482
  have k483 := kd_483
  have k484 := kd_484
  have k485 := kd_485
  have k486 := kd_486
  have k487 := kd_487
  have k488 := kd_488
  have k489 := kd_489
  have k490 := kd_490
  have k491 := kd_491
  have k492 := kd_492
  have k493 := kd_493
  have k494 := kd_494
  have k495 := kd_495
  have k496 := kd_496
  have k497 := kd_497
  have k498 := kd_498
  have k499 := kd_499
  have k500 := kd_500
  have k501 := kd_501
  have k502 := kd_502
  have k503 := kd_503
  have hw := wi_ok (lo := 0) (c := m) (hi := 5) (by omega) (by omega) (by omega)
  refine jj_aload_n F dX9_difference_0 rfl ?_
  refine jj_iload_n F dX9_difference_1 rfl ?_
  refine jj_callSi (na := 1) F c_X9_isMark (gl_S mk_X9_244 vw_X9_isMark) rfl rfl rfl (by decide +kernel) ⟨Nat.le_of_ble_eq_true rfl, Nat.le_of_ble_eq_true rfl⟩ rfl rfl (Nat.le_of_ble_eq_true rfl) ⟨Nat.le_of_ble_eq_true rfl, Nat.le_of_ble_eq_true rfl⟩ dX9_difference_2 (fun r2 M2 hp2 => ?_)
  obtain ⟨rfl, rfl⟩ := symm2 hp2
  refine jj_if_ne F (tgt := 12) dX9_difference_5 (by decide) (fun _ => ?_) (fun h9 => absurd h9 (by rw [hw]; decide))
  refine jj_aload_n F dX9_difference_12 rfl ?_
  refine jj_getr F g60 (by assumption) (by rfl) dX9_difference_13 ?_
  refine jj_iload_n F dX9_difference_16 rfl ?_
  refine jj_zald F (by assumption) rfl (by omega) dX9_difference_17 ?_
  rw [(hK m hm).1]
  refine jj_if_eq F (tgt := 25) dX9_difference_18 (by decide) (fun h9 => absurd h9 (by rw [hs]; decide)) (fun _ => ?_)
  refine jj_iconst F (v := nI 0) dX9_difference_21 (by decide) ?_
  refine jj_goto F (tgt := 26) dX9_difference_22 (by decide) ?_
  refine jj_puti F p87 (by assumption) (by rfl) dX9_difference_26 ?_
  refine jj_aload_n F dX9_difference_29 rfl ?_
  refine jj_geti F g87 (by assumption) (by rfl) dX9_difference_30 ?_
  rw [thr_0]
  refine jj_if_le F (tgt := 40) dX9_difference_33 (by decide) (fun _ => ?_) (fun h9 => absurd (by decide) h9)
  refine jj_aload_n F dX9_difference_40 rfl ?_
  refine jj_iload_n F dX9_difference_41 rfl ?_
  refine jj_callVi (na := 1) F (c_X9_differenceNow (RelM_thr hM) hm hs) (gl_V mk_X9_253 vw_X9_differenceNow) rfl rfl rfl (by decide +kernel) ⟨Nat.le_of_ble_eq_true rfl, Nat.le_of_ble_eq_true rfl⟩ kM rfl rfl rfl (Nat.le_of_ble_eq_true rfl) ⟨Nat.le_of_ble_eq_true rfl, Nat.le_of_ble_eq_true rfl⟩ dX9_difference_42 (fun r34 M34 hp34 => ?_)
  refine ret _ _ _ _ dX9_difference_45 (by first | rfl | exact nar_z (by first | exact Or.inl rfl | exact Or.inr rfl | exact b2i_01 _ | assumption)) ?_
  refine ⟨hp34.1, hp34.2.1, Pub_thr (FrD_of hp34.2.2)⟩
set_option maxRecDepth 100000 in
set_option maxHeartbeats 1000000 in
theorem m_ifSwitched_1 {l : Launch} {E : Ee} {M : Mm} {a : Ab} {W : Nat} (hM : RelM M a W) {x : Int32} (hw : wiB x (nI 0) (nI (a_n a) - nI 1) = false) : CtI l E yX9_ifSwitched (.code yX9_ifSwitched cX9_ifSwitched 2 (some .int) :: gl) ({ frames := 5, cells := 0, slots := 0, locals := 115 } : Room) M [.ref (E.2.2 478), .int x] 0 0 (fun r M2 => r = nI 0 ∧ RelM M2 a W ∧ Pub M M2 1) := by
  refine ctI_of (L0 := [some (.ref (E.2.2 478)), some (.int x)]) (by decide) rfl (Nat.le_of_ble_eq_true rfl) rfl ?_
  intro Z hl hE hnl F ret
  subst hE
  have in_X9 : ∀ w ∈ u_ws RX9 TX9 33, w ∈ (.code yX9_ifSwitched cX9_ifSwitched 2 (some .int) :: gl) := fun w h => List.mem_cons_of_mem _ (lay_X9 w h)
  have g28 : FG Z 28 9 9 := fg_mk F (C := RX9) (T := TX9) (N := 33) in_X9 rfl (by decide) rfl (List.mem_cons_of_mem _ fk_X9_28)
  have g69 : FG Z 69 9 25 := fg_mk F (C := RX9) (T := TX9) (N := 33) in_X9 rfl (by decide) rfl (List.mem_cons_of_mem _ fk_X9_69)
  have g87 : FG Z 87 9 0 := fg_mk F (C := RX9) (T := TX9) (N := 33) in_X9 rfl (by decide) rfl (List.mem_cons_of_mem _ fk_X9_87)
  have g95 : FG Z 95 9 2 := fg_mk F (C := RX9) (T := TX9) (N := 33) in_X9 rfl (by decide) rfl (List.mem_cons_of_mem _ fk_X9_95)
  have g126 : FG Z 126 9 1 := fg_mk F (C := RX9) (T := TX9) (N := 33) in_X9 rfl (by decide) rfl (List.mem_cons_of_mem _ fk_X9_126)
  have p87 : FP Z 87 9 0 .int := fp_mk F (C := RX9) (T := TX9) (N := 33) in_X9 tyX9_ok nmX9 rfl (by decide) rfl (List.mem_cons_of_mem _ fk_X9_87) rfl (by decide +kernel)
  obtain ⟨⟨h60, ht, htk, hn, hop, hac, hun, hopk, ⟨u0, hu1, hu2, hu3⟩, C, hC, hCa⟩, ⟨hlk, hll, hlz⟩, hK, ⟨hln, hl40, htx⟩, L0, hL0⟩ := id hM
  have kM := kd_M
  have k479 := kd_479
  have k480 := kd_480
  have k481 := kd_481
  have k482 := kd_482
  have k483 := kd_483
  have k484 := kd_484
  have k485 := kd_485
  have k486 := kd_486
  have k487 := kd_487
  have k488 := kd_488
  have k489 := kd_489
  have k490 := kd_490
  have k491 := kd_491
  have k492 := kd_492
  have k493 := kd_493
  have k494 := kd_494
  have k495 := kd_495
  have k496 := kd_496
  have k497 := kd_497
  have k498 := kd_498
  have k499 := kd_499
  have k500 := kd_500
  have k501 := kd_501
  have k502 := kd_502
  have k503 := kd_503
  refine jj_aload_n F dX9_ifSwitched_0 rfl ?_
  refine jj_aload_n F dX9_ifSwitched_1 rfl ?_
  refine jj_iload_n F dX9_ifSwitched_2 rfl ?_
  refine jj_callVi (na := 1) F c_X9_isOperation (gl_V mk_X9_289 vw_X9_isOperation) rfl rfl rfl (by decide +kernel) ⟨Nat.le_of_ble_eq_true rfl, Nat.le_of_ble_eq_true rfl⟩ kM rfl rfl rfl (Nat.le_of_ble_eq_true rfl) ⟨Nat.le_of_ble_eq_true rfl, Nat.le_of_ble_eq_true rfl⟩ dX9_ifSwitched_3 (fun r3 M3 hp3 => ?_)
  obtain ⟨rfl, rfl⟩ := symm2 hp3
  rw [hn]
  refine jj_if_eq F (tgt := 13) dX9_ifSwitched_6 (by decide) (fun _ => ?_) (fun h9 => absurd (by rw [hw]; rfl) h9)
  refine jj_iconst F (v := nI 1) dX9_ifSwitched_13 (by decide) ?_
  refine jj_puti F p87 (by assumption) (by rfl) dX9_ifSwitched_14 ?_
  refine jj_aload_n F dX9_ifSwitched_17 rfl ?_
  refine jj_geti F g87 (by assumption) (by rfl) dX9_ifSwitched_18 ?_
  rw [thr_0]
  refine jj_if_le F (tgt := 26) dX9_ifSwitched_21 (by decide) (fun h9 => absurd h9 (by decide)) (fun _ => ?_)
  refine jj_iconst F (v := nI 0) dX9_ifSwitched_24 (by decide) ?_
  refine ret _ _ _ _ dX9_ifSwitched_25 (by first | rfl | exact nar_z (by first | exact Or.inl rfl | exact Or.inr rfl | exact b2i_01 _ | assumption)) ?_
  exact ⟨rfl, RelM_thr hM, Pub_0⟩
theorem cg2 {α β γ : Type} (f : α → β → γ) {a b : α} {c d : β} (h : a = b) (h2 : c = d) : f a c = f b d := by rw [h, h2]
theorem LayP_ag {M M2 : Mm} {a : Ab} {go : Nat → Bool} {n : Nat} {t : Int32} (h : LayP M M2 a go n t) : M2.1 500 = M.1 500 := lay_500 h
set_option maxRecDepth 100000 in
set_option maxHeartbeats 1000000 in
theorem m_ifSwitched_0 {l : Launch} {E : Ee} {M : Mm} {a : Ab} {W : Nat} (hM : RelM M a W) {k : Nat} (hk : k < a_n a) : CtI l E yX9_ifSwitched (.code yX9_ifSwitched cX9_ifSwitched 2 (some .int) :: gl) ({ frames := 5, cells := 0, slots := 0, locals := 115 } : Room) M [.ref (E.2.2 478), .int (nI k)] 0 0 (fun r M2 => r = nI (dfC (clA a) (colA (a_op a) (a_C a) (fun i => if i = k then !a_ac a i else a_ac a i) (a_n a) (nI (a_t a)))) ∧ RelM M2 a W ∧ Pub M M2 0) := by
  refine ctI_of (L0 := [some (.ref (E.2.2 478)), some (.int (nI k))]) (by decide) rfl (Nat.le_of_ble_eq_true rfl) rfl ?_
  intro Z hl hE hnl F ret
  subst hE
  have in_X9 : ∀ w ∈ u_ws RX9 TX9 33, w ∈ (.code yX9_ifSwitched cX9_ifSwitched 2 (some .int) :: gl) := fun w h => List.mem_cons_of_mem _ (lay_X9 w h)
  have g28 : FG Z 28 9 9 := fg_mk F (C := RX9) (T := TX9) (N := 33) in_X9 rfl (by decide) rfl (List.mem_cons_of_mem _ fk_X9_28)
  have g69 : FG Z 69 9 25 := fg_mk F (C := RX9) (T := TX9) (N := 33) in_X9 rfl (by decide) rfl (List.mem_cons_of_mem _ fk_X9_69)
  have g87 : FG Z 87 9 0 := fg_mk F (C := RX9) (T := TX9) (N := 33) in_X9 rfl (by decide) rfl (List.mem_cons_of_mem _ fk_X9_87)
  have g95 : FG Z 95 9 2 := fg_mk F (C := RX9) (T := TX9) (N := 33) in_X9 rfl (by decide) rfl (List.mem_cons_of_mem _ fk_X9_95)
  have g126 : FG Z 126 9 1 := fg_mk F (C := RX9) (T := TX9) (N := 33) in_X9 rfl (by decide) rfl (List.mem_cons_of_mem _ fk_X9_126)
  have p87 : FP Z 87 9 0 .int := fp_mk F (C := RX9) (T := TX9) (N := 33) in_X9 tyX9_ok nmX9 rfl (by decide) rfl (List.mem_cons_of_mem _ fk_X9_87) rfl (by decide +kernel)
  obtain ⟨⟨h60, ht, htk, hn, hop, hac, hun, hopk, ⟨u0, hu1, hu2, hu3⟩, C, hC, hCa⟩, ⟨hlk, hll, hlz⟩, hK, ⟨hln, hl40, htx⟩, L0, hL0⟩ := id hM
  have kM := kd_M
  have k479 := kd_479
  have k480 := kd_480
  have k481 := kd_481
  have k482 := kd_482
  have k483 := kd_483
  have k484 := kd_484
  have k485 := kd_485
  have k486 := kd_486
  have k487 := kd_487
  have k488 := kd_488
  have k489 := kd_489
  have k490 := kd_490
  have k491 := kd_491
  have k492 := kd_492
  have k493 := kd_493
  have k494 := kd_494
  have k495 := kd_495
  have k496 := kd_496
  have k497 := kd_497
  have k498 := kd_498
  have k499 := kd_499
  have k500 := kd_500
  have k501 := kd_501
  have k502 := kd_502
  have k503 := kd_503
  have hw := isop_k hk h60
  refine jj_aload_n F dX9_ifSwitched_0 rfl ?_
  refine jj_aload_n F dX9_ifSwitched_1 rfl ?_
  refine jj_iload_n F dX9_ifSwitched_2 rfl ?_
  refine jj_callVi (na := 1) F c_X9_isOperation (gl_V mk_X9_289 vw_X9_isOperation) rfl rfl rfl (by decide +kernel) ⟨Nat.le_of_ble_eq_true rfl, Nat.le_of_ble_eq_true rfl⟩ kM rfl rfl rfl (Nat.le_of_ble_eq_true rfl) ⟨Nat.le_of_ble_eq_true rfl, Nat.le_of_ble_eq_true rfl⟩ dX9_ifSwitched_3 (fun r3 M3 hp3 => ?_)
  obtain ⟨rfl, rfl⟩ := symm2 hp3
  rw [hn]
  refine jj_if_eq F (tgt := 13) dX9_ifSwitched_6 (by decide) (fun h9 => absurd h9 (by rw [hw]; decide)) (fun _ => ?_)
  refine jj_iconst F (v := nI 0) dX9_ifSwitched_9 (by decide) ?_
  refine jj_goto F (tgt := 14) dX9_ifSwitched_10 (by decide) ?_
  refine jj_puti F p87 (by assumption) (by rfl) dX9_ifSwitched_14 ?_
  refine jj_aload_n F dX9_ifSwitched_17 rfl ?_
  refine jj_geti F g87 (by assumption) (by rfl) dX9_ifSwitched_18 ?_
  rw [thr_0]
  refine jj_if_le F (tgt := 26) dX9_ifSwitched_21 (by decide) (fun _ => ?_) (fun h9 => absurd (by decide) h9)
  refine jj_aload_n F dX9_ifSwitched_26 rfl ?_
  refine jj_callVv (na := 0) F (c_X9_layNow (RelM_thr hM)) (gl_V mk_X9_201 vw_X9_layNow) rfl rfl rfl (by decide +kernel) ⟨Nat.le_of_ble_eq_true rfl, Nat.le_of_ble_eq_true rfl⟩ kM rfl rfl rfl (Nat.le_of_ble_eq_true rfl) ⟨Nat.le_of_ble_eq_true rfl, Nat.le_of_ble_eq_true rfl⟩ dX9_ifSwitched_27 (fun MN hpN => ?_)
  have hD9 := Ld_lay (RelM_thr hM) hpN
  have hTN := Ld_tops hD9
  refine jj_aload_n F dX9_ifSwitched_30 rfl ?_
  refine jj_callVv (na := 0) F (c_X9_keepPicture hTN) (gl_V mk_X9_204 vw_X9_keepPicture) rfl rfl rfl (by decide +kernel) ⟨Nat.le_of_ble_eq_true rfl, Nat.le_of_ble_eq_true rfl⟩ kM rfl rfl rfl (Nat.le_of_ble_eq_true rfl) ⟨Nat.le_of_ble_eq_true rfl, Nat.le_of_ble_eq_true rfl⟩ dX9_ifSwitched_31 (fun M31 hp31 => ?_)
  obtain rfl := hp31.symm
  obtain ⟨gN, LN, fN, eN, gN1, gN2, gN3⟩ := id hpN
  have hac9 : MN.1 485 k = b2i (a_ac a k) := hD9.1.1.2.2.2.2.2.1 k hk
  have hn9 : MN.1 478 2 = nI (a_n a) := hD9.1.1.2.2.2.1
  have ht9 : MN.1 478 1 = nI (a_t a) := hD9.1.1.2.2.1
  have hg9 : MN.1 498 = gN := by rw [eN, wA_n (by decide), wL_1, wA_s]
  have hL9 : MN.2 497 = lws LN := by rw [eN, wA_2, wL_s]
  have hC9 : MN.2 487 = lws C := by rw [eN, wA_2, wL_n (by decide)]; exact hC
  have hg2 : ∀ i, i < a_n a → upd gN k (b2i (!a_ac a k)) i = b2i ((fun i => if i = k then !a_ac a i else a_ac a i) i) := by
    intro i hi
    by_cases q : i = k
    · subst q; simp [upd]
    · simp only [upd, if_neg q]; exact gN1 i hi
  have hopG : ∀ i, i < a_n a → ∀ b, b < 6 → (wA (wA MN 500 (shF MN)) 498 (upd gN k (b2i (!a_ac a k)))).1 (479 + b) i = a_op a i b := fun i hi b hb => by rw [wA_n (by omega), wA_n (by omega)]; exact hD9.1.1.2.2.2.2.1 i hi b hb
  have hgoG : ∀ i, i < a_n a → (wA (wA MN 500 (shF MN)) 498 (upd gN k (b2i (!a_ac a k)))).1 498 i = b2i ((fun i => if i = k then !a_ac a i else a_ac a i) i) := fun i hi => by rw [wA_1s]; exact hg2 i hi
  have hL10 : (wA (wA MN 500 (shF MN)) 498 (upd gN k (b2i (!a_ac a k)))).2 497 = lws LN := hL9
  have hC10 : (wA (wA MN 500 (shF MN)) 498 (upd gN k (b2i (!a_ac a k)))).2 487 = lws C := hC9
  have j53 : ∀ v : Int32, v = b2i (!a_ac a k) → JJ Z (0, 0) (wA MN 500 (shF MN)) 53 [some (.ref ((zE Z).2.2 478)), some (.int (nI k))] [.int v, .int (nI k), .ref ((zE Z).2.2 498)] := by
    rintro v rfl
    refine jj_zast F (by assumption) rfl (by omega) (by first | exact Or.inl rfl | exact Or.inr rfl | exact b2i_01 _ | assumption) dX9_ifSwitched_53 ?_
    rw [show (wA MN 500 (shF MN)).1 498 = gN from hg9]
    refine jj_aload_n F dX9_ifSwitched_54 rfl ?_
    refine jj_aload_n F dX9_ifSwitched_55 rfl ?_
    refine jj_geti F g95 (by assumption) (by rfl) dX9_ifSwitched_56 ?_
    refine jj_topi (show _ = nI (a_n a) from hn9) ?_
    refine jj_callVv (na := 1) F (c_X9_layLeft (M := (wA (wA MN 500 (shF MN)) 498 (upd gN k (b2i (!a_ac a k))))) hL10 hC10 h60) (gl_V mk_X9_119 vw_X9_layLeft) rfl rfl rfl (by decide +kernel) ⟨Nat.le_of_ble_eq_true rfl, Nat.le_of_ble_eq_true rfl⟩ kM rfl rfl rfl (Nat.le_of_ble_eq_true rfl) ⟨Nat.le_of_ble_eq_true rfl, Nat.le_of_ble_eq_true rfl⟩ dX9_ifSwitched_59 (fun M59 hp59 => ?_)
    obtain rfl := hp59.symm
    refine jj_aload_n F dX9_ifSwitched_62 rfl ?_
    refine jj_aload_n F dX9_ifSwitched_63 rfl ?_
    refine jj_geti F g95 (by assumption) (by rfl) dX9_ifSwitched_64 ?_
    refine jj_topi (show _ = nI (a_n a) from hn9) ?_
    refine jj_aload_n F dX9_ifSwitched_67 rfl ?_
    refine jj_geti F g126 (by assumption) (by rfl) dX9_ifSwitched_68 ?_
    refine jj_topi (show _ = nI (a_t a) from ht9) ?_
    refine jj_callVv (na := 2) F (c_X9_layTop (wL_s _ _ _) h60) (gl_V mk_X9_122 vw_X9_layTop) rfl rfl rfl (by decide +kernel) ⟨Nat.le_of_ble_eq_true rfl, Nat.le_of_ble_eq_true rfl⟩ kM rfl rfl rfl (Nat.le_of_ble_eq_true rfl) ⟨Nat.le_of_ble_eq_true rfl, Nat.le_of_ble_eq_true rfl⟩ dX9_ifSwitched_71 (fun M71 hp71 => ?_)
    obtain rfl := hp71.symm
    have hT74 : topsOk (wA (wL (wA (wA MN 500 (shF MN)) 498 (upd gN k (b2i (!a_ac a k)))) 497 (lws (LM (wA (wA MN 500 (shF MN)) 498 (upd gN k (b2i (!a_ac a k)))) C LN (a_n a)))) 499 (tN (tpM ((wA (wA MN 500 (shF MN)) 498 (upd gN k (b2i (!a_ac a k)))).1 481) (fun j => vanI ((wA (wA MN 500 (shF MN)) 498 (upd gN k (b2i (!a_ac a k)))).1 483 j) ((wA (wA MN 500 (shF MN)) 498 (upd gN k (b2i (!a_ac a k)))).1 484 j) (nI (a_t a))) (LM (wA (wA MN 500 (shF MN)) 498 (upd gN k (b2i (!a_ac a k)))) C LN (a_n a)) (a_n a)))) := fun c hc => ⟨_, by rw [wA_1s]; rfl, fun j hj => by have := tpM_lt hj; omega⟩
    refine jj_aload_n F dX9_ifSwitched_74 rfl ?_
    refine jj_callVi (na := 0) F (c_X9_others hT74) (gl_V mk_X9_207 vw_X9_others) rfl rfl rfl (by decide +kernel) ⟨Nat.le_of_ble_eq_true rfl, Nat.le_of_ble_eq_true rfl⟩ kM rfl rfl rfl (Nat.le_of_ble_eq_true rfl) ⟨Nat.le_of_ble_eq_true rfl, Nat.le_of_ble_eq_true rfl⟩ dX9_ifSwitched_75 (fun r75 M75 hp75 => ?_)
    obtain ⟨rfl, rfl⟩ := symm2 hp75
    refine ret _ _ _ _ dX9_ifSwitched_78 (by first | rfl | exact nar_z (by first | exact Or.inl rfl | exact Or.inr rfl | exact b2i_01 _ | assumption)) ?_
    have hL2 : LayP (wA MN 500 (shF MN)) (wA (wL (wA (wA MN 500 (shF MN)) 498 (upd gN k (b2i (!a_ac a k)))) 497 (lws (LM (wA (wA MN 500 (shF MN)) 498 (upd gN k (b2i (!a_ac a k)))) C LN (a_n a)))) 499 (tN (tpM ((wA (wA MN 500 (shF MN)) 498 (upd gN k (b2i (!a_ac a k)))).1 481) (fun j => vanI ((wA (wA MN 500 (shF MN)) 498 (upd gN k (b2i (!a_ac a k)))).1 483 j) ((wA (wA MN 500 (shF MN)) 498 (upd gN k (b2i (!a_ac a k)))).1 484 j) (nI (a_t a))) (LM (wA (wA MN 500 (shF MN)) 498 (upd gN k (b2i (!a_ac a k)))) C LN (a_n a)) (a_n a)))) a (fun i => if i = k then !a_ac a i else a_ac a i) (a_n a) (nI (a_t a)) := by
      refine ⟨_, _, _, rfl, fun i hi => ?_, ?_, ?_⟩
      · exact hg2 i hi
      · exact LM_LSa hopG hgoG hCa (opOk_er hopk)
      · intro c hc
        show numI _ = numI _
        congr 1
        refine tpM_cong (fun j hj => ⟨hopG j hj 2 (by omega), ?_, LM_LSa hopG hgoG hCa (opOk_er hopk) j hj c hc⟩)
        show vanI ((wA (wA MN 500 (shF MN)) 498 (upd gN k (b2i (!a_ac a k)))).1 483 j) ((wA (wA MN 500 (shF MN)) 498 (upd gN k (b2i (!a_ac a k)))).1 484 j) _ = vanI _ _ _
        rw [show (wA (wA MN 500 (shF MN)) 498 (upd gN k (b2i (!a_ac a k)))).1 483 j = a_op a j 4 from hopG j hj 4 (by omega), show (wA (wA MN 500 (shF MN)) 498 (upd gN k (b2i (!a_ac a k)))).1 484 j = a_op a j 5 from hopG j hj 5 (by omega)]
    have hm2 : RelM (wA MN 500 (shF MN)) a W := RelM_500 hD9.1
    refine ⟨?_, RelM_lay hm2 hL2, Pub_thr (FrD_tr (FrD_of (Fr_lay hpN)) (FrD_tr (FrD_of Fr_500) (FrD_of (Fr_lay hL2))))⟩
    congr 1
    refine fb_ct_cong (fun c hc => ?_)
    have e1 := lay_500 hL2
    have e2 := shF_lay hm2 (Nat.le_refl _) hL2 hc
    refine (cg2 (fun p q : Int32 => !decide (p = q)) (congrFun e1 c) e2).trans ?_
    show (!decide ((wA MN 500 (shF MN)).1 500 c = _)) = _
    rw [wA_1s, Ld_sh hD9 hc]
  refine jj_aload_n F dX9_ifSwitched_34 rfl ?_
  refine jj_getr F g69 (by assumption) (by rfl) dX9_ifSwitched_35 ?_
  refine jj_iload_n F dX9_ifSwitched_38 rfl ?_
  refine jj_aload_n F dX9_ifSwitched_39 rfl ?_
  refine jj_getr F g28 (by assumption) (by rfl) dX9_ifSwitched_40 ?_
  refine jj_iload_n F dX9_ifSwitched_43 rfl ?_
  refine jj_zald F (by assumption) rfl (by omega) dX9_ifSwitched_44 ?_
  rw [show (wA MN 500 (shF MN)).1 485 k = b2i (a_ac a k) from hac9]
  refine jj_if_ne F (tgt := 52) dX9_ifSwitched_45 (by decide) (fun h45 => ?_) (fun h45 => ?_)
  · refine jj_iconst F (v := nI 0) dX9_ifSwitched_52 (by decide) ?_
    first
    | (have z := van_t h45; exact j53 _ (by rw [z]; rfl))
    | (have z := van_f h45; exact j53 _ (by rw [z]; rfl))
  · refine jj_iconst F (v := nI 1) dX9_ifSwitched_48 (by decide) ?_
    refine jj_goto F (tgt := 53) dX9_ifSwitched_49 (by decide) ?_
    first
    | (have z := van_t h45; exact j53 _ (by rw [z]; rfl))
    | (have z := van_f h45; exact j53 _ (by rw [z]; rfl))
