theorem RelM_W {M : Mm} {a : Ab} {W W2 : Nat} (h : RelM M a W) (hw : W ≤ W2) : RelM M a W2 := by
  obtain ⟨⟨o1, o2, o3, o4, o5, o6, o7, o8, ⟨u, u1, u2, u3⟩, o9⟩, h2⟩ := h
  exact ⟨⟨o1, o2, o3, o4, o5, o6, o7, o8, ⟨u, by omega, u2, u3⟩, o9⟩, h2⟩
theorem opOk_t {t t2 : Nat} {f : Nat → Int32} (h : opOk t f) (ht : t ≤ t2) : opOk t2 f := by
  obtain ⟨h1, h2, h3, h4, h5, v, hv, e⟩ := h
  exact ⟨h1, h2, h3, h4, h5, v, by omega, e⟩
theorem RelM_clr {M M2 : Mm} {a : Ab} {W : Nat} (hM : RelM M a W) (h1 : M2.1 478 1 = nI 0) (h2 : M2.1 478 2 = nI 0) (h11 : M2.1 478 11 = nI 0) (h13 : M2.1 478 13 = nI 0) (h22 : M2.1 478 22 = M.1 478 22) (h495 : ∀ m, m < 6 → M2.1 495 m = nI 0) (h496 : M2.1 496 = M.1 496) (hs : M2.2 = M.2) : RelM M2 (clrA a) W := by
  obtain ⟨⟨o1, o2, o3, o4, o5, o6, o7, o8, ⟨u, u1, u2, u3⟩, C, o9, o10⟩, ⟨l1, l2, l3⟩, hK, ⟨t1, t2, t3⟩, L, hL⟩ := hM
  exact ⟨⟨Nat.zero_le _, Nat.zero_le _, h1, h2, fun i hi => absurd hi (Nat.not_lt_zero i), fun i hi => absurd hi (Nat.not_lt_zero i), fun i hi => absurd hi (Nat.not_lt_zero i), fun i hi => absurd hi (Nat.not_lt_zero i), ⟨0, Nat.zero_le _, h11, fun i hi => absurd hi (Nat.not_lt_zero i)⟩, C, by rw [hs]; exact o9, fun i hi => absurd hi (Nat.not_lt_zero i)⟩, ⟨⟨Nat.zero_le _, fun z hz => absurd hz (List.not_mem_nil)⟩, h13, fun j z hz => absurd hz (by show ¬ ([] : List Lz)[j]? = some z; simp)⟩, fun m hm => ⟨h495 m hm, fun h => by cases h⟩, ⟨by rw [h22]; exact t1, t2, fun i hi => by rw [h496]; exact t3 i hi⟩, L, by rw [hs]; exact hL⟩
def tlA (a : Ab) (t : Nat) (l : List Lz) : Ab := (a_n a, t, a_op a, a_ac a, a_C a, a_un a, l, a_mk a, a_ln a, a_cd a, a_g a)
theorem RelM_tl {M M2 : Mm} {a : Ab} {W t : Nat} {l : List Lz} (hM : RelM M a W) (ht : a_t a ≤ t) (ht2 : t ≤ 100000) (h1 : M2.1 478 1 = nI t) (h478 : ∀ b, b = 2 ∨ b = 11 ∨ b = 22 → M2.1 478 b = M.1 478 b) (hot : ∀ x, 479 ≤ x → x ≤ 496 → (x < 488 ∨ 491 < x) → M2.1 x = M.1 x) (h2 : M2.2 = M.2) (hl : RelML M2 t l) : RelM M2 (tlA a t l) W := by
  obtain ⟨⟨o1, o2, o3, o4, o5, o6, o7, o8, ⟨u, u1, u2, u3⟩, C, o9, o10⟩, -, hK, ⟨t1, t2, t3⟩, L, hL⟩ := hM
  exact ⟨⟨o1, ht2, h1, by rw [h478 2 (by simp)]; exact o4, fun i hi b hb => by rw [hot _ (by omega) (by omega) (by omega)]; exact o5 i hi b hb, fun i hi => by rw [hot 485 (by omega) (by omega) (by omega)]; exact o6 i hi, fun i hi => by rw [hot 486 (by omega) (by omega) (by omega)]; exact o7 i hi, fun i hi => opOk_t (o8 i hi) ht, ⟨u, u1, by rw [h478 11 (by simp)]; exact u2, u3⟩, C, by rw [h2]; exact o9, o10⟩, hl, fun m hm => by rw [hot 495 (by omega) (by omega) (by omega), hot 492 (by omega) (by omega) (by omega), hot 493 (by omega) (by omega) (by omega), h2]; exact hK m hm, ⟨by rw [h478 22 (by simp)]; exact t1, t2, fun i hi => by rw [hot 496 (by omega) (by omega) (by omega)]; exact t3 i hi⟩, L, by rw [h2]; exact hL⟩
theorem ml_drop {M : Mm} {t0 t : Nat} {lk : List Lz} {x : Int32} {f1 f2 f3 f4 : Nat → Int32} (h : lkOk t0 lk) (h2 : ∀ j z, (lk.filter (fun z => decide (t < z.2.2.2) && !decide (nI z.1 = x)))[j]? = some z → lkR f1 f2 f3 f4 j z) : RelML (wA (quad M f1 f2 f3 f4) 478 (upd (M.1 478) 13 (nI (lk.filter (fun z => decide (t < z.2.2.2) && !decide (nI z.1 = x))).length))) t (lk.filter (fun z => decide (t < z.2.2.2) && !decide (nI z.1 = x))) := by
  refine ⟨⟨Nat.le_trans (List.length_filter_le _ _) h.1, fun z hz => ?_⟩, by rw [wA_1s]; simp [upd], fun j z hz => ?_⟩
  · obtain ⟨m1, m2⟩ := List.mem_filter.mp hz
    simp only [Bool.and_eq_true, decide_eq_true_eq] at m2
    obtain ⟨b1, b2, b3, -, b5⟩ := h.2 z m1
    exact ⟨b1, b2, b3, m2.1, b5⟩
  · rw [wA_n (by decide), wA_n (by decide), wA_n (by decide), wA_n (by decide), quad_1, quad_2, quad_3, quad_4]
    exact h2 j z hz
theorem flt_m1 {t0 t : Nat} {lk : List Lz} (h : lkOk t0 lk) : lk.filter (fun z => decide (t < z.2.2.2) && !decide (nI z.1 = -1)) = lk.filter (fun z => decide (t < z.2.2.2)) := by
  refine List.filter_congr (fun z hz => ?_)
  have := (h.2 z hz).1
  rw [decide_eq_false (nI_m1 (by omega))]
  simp
theorem flt_u {t : Nat} {lk : List Lz} {u : Nat} (h : lkOk t lk) (hu : u < 5) : lk.filter (fun z => decide (t < z.2.2.2) && !decide (nI z.1 = nI u)) = lk.filter (fun z => !decide (z.1 = u)) := by
  refine List.filter_congr (fun z hz => ?_)
  obtain ⟨b1, -, -, b4, -⟩ := h.2 z hz
  rw [decide_eq_true b4, Bool.true_and]
  congr 1
  rw [Bool.eq_iff_iff]
  simp only [decide_eq_true_eq]
  exact nI_eq (by omega) (by omega)
theorem lkR_of {M : Mm} {t : Nat} {lk : List Lz} (h : RelML M t lk) : ∀ j z, lk[j]? = some z → lkR (M.1 488) (M.1 489) (M.1 490) (M.1 491) j z := fun j z hz => h.2.2 j z hz
set_option maxRecDepth 100000 in
set_option maxHeartbeats 1000000 in
theorem m_clear_0 {l : Launch} {E : Ee} {M : Mm} {a : Ab} {W : Nat} (hM : RelM M a W) : CtI l E yX9_clear (.code yX9_clear cX9_clear 3 (some .int) :: gl) ({ frames := 0, cells := 0, slots := 0, locals := 0 } : Room) M [.ref (E.2.2 478)] 0 0 (fun r M2 => r = nI (a_n a) ∧ RelM M2 (clrA a) W ∧ Pub M M2 0) := by
  refine ctI_of (L0 := [some (.ref (E.2.2 478)), none, none]) (by decide) rfl (Nat.le_of_ble_eq_true rfl) rfl ?_
  intro Z hl hE hnl F ret
  subst hE
  have in_X9 : ∀ w ∈ u_ws RX9 TX9 33, w ∈ (.code yX9_clear cX9_clear 3 (some .int) :: gl) := fun w h => List.mem_cons_of_mem _ (lay_X9 w h)
  have g60 : FG Z 60 9 21 := fg_mk F (C := RX9) (T := TX9) (N := 33) in_X9 rfl (by decide) rfl (List.mem_cons_of_mem _ fk_X9_60)
  have g95 : FG Z 95 9 2 := fg_mk F (C := RX9) (T := TX9) (N := 33) in_X9 rfl (by decide) rfl (List.mem_cons_of_mem _ fk_X9_95)
  have p87 : FP Z 87 9 0 .int := fp_mk F (C := RX9) (T := TX9) (N := 33) in_X9 tyX9_ok nmX9 rfl (by decide) rfl (List.mem_cons_of_mem _ fk_X9_87) rfl (by decide +kernel)
  have p95 : FP Z 95 9 2 .int := fp_mk F (C := RX9) (T := TX9) (N := 33) in_X9 tyX9_ok nmX9 rfl (by decide) rfl (List.mem_cons_of_mem _ fk_X9_95) rfl (by decide +kernel)
  have p126 : FP Z 126 9 1 .int := fp_mk F (C := RX9) (T := TX9) (N := 33) in_X9 tyX9_ok nmX9 rfl (by decide) rfl (List.mem_cons_of_mem _ fk_X9_126) rfl (by decide +kernel)
  have p136 : FP Z 136 9 13 .int := fp_mk F (C := RX9) (T := TX9) (N := 33) in_X9 tyX9_ok nmX9 rfl (by decide) rfl (List.mem_cons_of_mem _ fk_X9_136) rfl (by decide +kernel)
  have p139 : FP Z 139 9 11 .int := fp_mk F (C := RX9) (T := TX9) (N := 33) in_X9 tyX9_ok nmX9 rfl (by decide) rfl (List.mem_cons_of_mem _ fk_X9_139) rfl (by decide +kernel)
  obtain ⟨⟨h60, ht, htk, hn, hop, hac, hun, hopk, ⟨u0, hu1, hu2, hu3⟩, C, hC, hCa⟩, ⟨hlk, hll, hlz⟩, hK, ⟨hln, hl40, htx⟩, L0, hL0⟩ := id hM
  have kM := kd_M
  have k479 := kd_479
  have k480 := kd_480
  have k481 := kd_481
  have k482 := kd_482
  have k483 := kd_483
  have k484 := kd_484
  have k485 := kd_485
  have k486 := kd_486
  have k487 := kd_487
  have k488 := kd_488
  have k489 := kd_489
  have k490 := kd_490
  have k491 := kd_491
  have k492 := kd_492
  have k493 := kd_493
  have k494 := kd_494
  have k495 := kd_495
  have k496 := kd_496
  have k497 := kd_497
  have k498 := kd_498
  have k499 := kd_499
  have k500 := kd_500
  have k501 := kd_501
  have k502 := kd_502
  have k503 := kd_503
  have lo : ∀ N : Mm, N.1 478 1 = nI 0 → N.1 478 2 = nI 0 → N.1 478 11 = nI 0 → N.1 478 13 = nI 0 → N.1 478 22 = M.1 478 22 → N.1 496 = M.1 496 → N.2 = M.2 → N.1 478 0 = nI 0 → (∀ x, x < 478 → N.1 x = M.1 x) → JJ Z (0, 0) N 32 [some (.ref ((zE Z).2.2 478)), some (.int (nI (a_n a))), some (.int (nI 0))] [] := by
    intro N g1 g2 g11 g13 g22 g496 gs g0 gx
    have l1 : ∀ i, i ≤ 6 → JJ Z (0, 0) (wA N 495 (fl i (fun _ => nI 0) (N.1 495))) 32 [some (.ref ((zE Z).2.2 478)), some (.int (nI (a_n a))), some (.int (nI i))] [] := by
      refine jj_loop (6) ?_ ?_
      · refine jj_iload_n F dX9_clear_32 rfl ?_
        refine jj_bipush F (v := nI 6) dX9_clear_33 (by decide) ?_
        refine jj_icmp_ge F (tgt := 51) dX9_clear_35 (by decide) (fun _ => ?_) (fun h9 => absurd (nI_le (by omega) (by omega)) h9)
        refine jj_iload_n F dX9_clear_51 rfl ?_
        refine ret _ _ _ _ dX9_clear_52 (by first | rfl | exact nar_z (by first | exact Or.inl rfl | exact Or.inr rfl | exact b2i_01 _ | assumption)) ?_
        refine ⟨rfl, RelM_clr hM ?_ ?_ ?_ ?_ ?_ (fun m hm => ?_) ?_ ?_, fun x hx => ?_, ?_, ?_⟩
        · rw [wA_n (by decide)]; exact g1
        · rw [wA_n (by decide)]; exact g2
        · rw [wA_n (by decide)]; exact g11
        · rw [wA_n (by decide)]; exact g13
        · rw [wA_n (by decide)]; exact g22
        · rw [wA_1s, fl_in hm]
        · rw [wA_n (by decide)]; exact g496
        · exact gs
        · rw [wA_n (by omega)]; exact gx x hx
        · rw [wA_2, gs]
        · rw [wA_n (by decide)]; exact g0
      · intro i hi ih
        refine jj_iload_n F dX9_clear_32 rfl ?_
        refine jj_bipush F (v := nI 6) dX9_clear_33 (by decide) ?_
        refine jj_icmp_ge F (tgt := 51) dX9_clear_35 (by decide) (fun h9 => absurd h9 (nI_ge (by omega) (by omega))) (fun _ => ?_)
        refine jj_aload_n F dX9_clear_38 rfl ?_
        refine jj_getr F g60 (by assumption) (by rfl) dX9_clear_39 ?_
        refine jj_iload_n F dX9_clear_42 rfl ?_
        refine jj_iconst F (v := nI 0) dX9_clear_43 (by decide) ?_
        refine jj_zast F (by assumption) rfl (by omega) (by first | exact Or.inl rfl | exact Or.inr rfl | exact b2i_01 _ | assumption) dX9_clear_44 ?_
        refine jj_iinc F dX9_clear_45 rfl (by first | exact iinc1 _ | rfl) (by rw [hnl]; decide) ?_
        dsimp only [lq_st, lq_clr, lq_no]
        refine jj_goto F (tgt := 32) dX9_clear_48 (by decide) ?_
        rw [fl_put rfl]
        exact ih
    refine jj_eqM (fl_0 N 495 (fun _ => nI 0)) ?_
    exact l1 0 (by omega)
  refine jj_aload_n F dX9_clear_0 rfl ?_
  refine jj_iconst F (v := nI 0) dX9_clear_1 (by decide) ?_
  refine jj_puti F p87 (by assumption) (by rfl) dX9_clear_2 ?_
  refine jj_aload_n F dX9_clear_5 rfl ?_
  refine jj_geti F g95 (by assumption) (by rfl) dX9_clear_6 ?_
  refine jj_topi (show _ = nI (a_n a) from hn) ?_
  refine jj_istore_n F dX9_clear_9 (by rw [hnl]; decide) ?_
  dsimp only [lq_st, lq_clr, lq_no]
  refine jj_aload_n F dX9_clear_10 rfl ?_
  refine jj_iconst F (v := nI 0) dX9_clear_11 (by decide) ?_
  refine jj_puti F p95 (by assumption) (by rfl) dX9_clear_12 ?_
  refine jj_aload_n F dX9_clear_15 rfl ?_
  refine jj_iconst F (v := nI 0) dX9_clear_16 (by decide) ?_
  refine jj_puti F p126 (by assumption) (by rfl) dX9_clear_17 ?_
  refine jj_aload_n F dX9_clear_20 rfl ?_
  refine jj_iconst F (v := nI 0) dX9_clear_21 (by decide) ?_
  refine jj_puti F p136 (by assumption) (by rfl) dX9_clear_22 ?_
  refine jj_aload_n F dX9_clear_25 rfl ?_
  refine jj_iconst F (v := nI 0) dX9_clear_26 (by decide) ?_
  refine jj_puti F p139 (by assumption) (by rfl) dX9_clear_27 ?_
  refine jj_iconst F (v := nI 0) dX9_clear_30 (by decide) ?_
  refine jj_istore_n F dX9_clear_31 (by rw [hnl]; decide) ?_
  dsimp only [lq_st, lq_clr, lq_no]
  exact lo _ rfl rfl rfl rfl rfl rfl rfl rfl (fun x hx => by rw [wA_n (by omega), wA_n (by omega), wA_n (by omega), wA_n (by omega), wA_n (by omega)])
set_option maxRecDepth 100000 in
set_option maxHeartbeats 1000000 in
theorem m_pass_1 {l : Launch} {E : Ee} {M : Mm} {a : Ab} {W : Nat} (hM : RelM M a W) {x : Int32} (hw : wiB x (nI 1) (nI 1000) = false) : CtI l E yX9_pass (.code yX9_pass cX9_pass 2 (some .int) :: gl) ({ frames := 1, cells := 0, slots := 0, locals := 23 } : Room) M [.ref (E.2.2 478), .int x] 0 0 (fun r M2 => r = nI 0 ∧ RelM M2 a W ∧ Pub M M2 1) := by
  refine ctI_of (L0 := [some (.ref (E.2.2 478)), some (.int x)]) (by decide) rfl (Nat.le_of_ble_eq_true rfl) rfl ?_
  intro Z hl hE hnl F ret
  subst hE
  have in_X9 : ∀ w ∈ u_ws RX9 TX9 33, w ∈ (.code yX9_pass cX9_pass 2 (some .int) :: gl) := fun w h => List.mem_cons_of_mem _ (lay_X9 w h)
  have g87 : FG Z 87 9 0 := fg_mk F (C := RX9) (T := TX9) (N := 33) in_X9 rfl (by decide) rfl (List.mem_cons_of_mem _ fk_X9_87)
  have g126 : FG Z 126 9 1 := fg_mk F (C := RX9) (T := TX9) (N := 33) in_X9 rfl (by decide) rfl (List.mem_cons_of_mem _ fk_X9_126)
  have p87 : FP Z 87 9 0 .int := fp_mk F (C := RX9) (T := TX9) (N := 33) in_X9 tyX9_ok nmX9 rfl (by decide) rfl (List.mem_cons_of_mem _ fk_X9_87) rfl (by decide +kernel)
  have p126 : FP Z 126 9 1 .int := fp_mk F (C := RX9) (T := TX9) (N := 33) in_X9 tyX9_ok nmX9 rfl (by decide) rfl (List.mem_cons_of_mem _ fk_X9_126) rfl (by decide +kernel)
  obtain ⟨⟨h60, ht, htk, hn, hop, hac, hun, hopk, ⟨u0, hu1, hu2, hu3⟩, C, hC, hCa⟩, ⟨hlk, hll, hlz⟩, hK, ⟨hln, hl40, htx⟩, L0, hL0⟩ := id hM
  have kM := kd_M
  have k479 := kd_479
  have k480 := kd_480
  have k481 := kd_481
  have k482 := kd_482
  have k483 := kd_483
  have k484 := kd_484
  have k485 := kd_485
  have k486 := kd_486
  have k487 := kd_487
  have k488 := kd_488
  have k489 := kd_489
  have k490 := kd_490
  have k491 := kd_491
  have k492 := kd_492
  have k493 := kd_493
  have k494 := kd_494
  have k495 := kd_495
  have k496 := kd_496
  have k497 := kd_497
  have k498 := kd_498
  have k499 := kd_499
  have k500 := kd_500
  have k501 := kd_501
  have k502 := kd_502
  have k503 := kd_503
  refine jj_aload_n F dX9_pass_0 rfl ?_
  refine jj_iload_n F dX9_pass_1 rfl ?_
  refine jj_iconst F (v := nI 1) dX9_pass_2 (by decide) ?_
  refine jj_sipush F (v := nI 1000) dX9_pass_3 (by decide) ?_
  refine jj_callSi (na := 3) F c_X9_within (gl_S mk_X9_91 vw_X9_within) rfl rfl rfl (by decide +kernel) ⟨Nat.le_of_ble_eq_true rfl, Nat.le_of_ble_eq_true rfl⟩ rfl rfl (Nat.le_of_ble_eq_true rfl) ⟨Nat.le_of_ble_eq_true rfl, Nat.le_of_ble_eq_true rfl⟩ dX9_pass_6 (fun r6 M6 hp6 => ?_)
  obtain ⟨rfl, rfl⟩ := symm2 hp6
  refine jj_if_ne F (tgt := 16) dX9_pass_9 (by decide) (fun h9 => absurd h9 (fun z => z (by rw [hw]; rfl))) (fun _ => ?_)
  refine jj_iconst F (v := nI 1) dX9_pass_12 (by decide) ?_
  refine jj_goto F (tgt := 32) dX9_pass_13 (by decide) ?_
  refine jj_puti F p87 (by assumption) (by rfl) dX9_pass_32 ?_
  refine jj_aload_n F dX9_pass_35 rfl ?_
  refine jj_geti F g87 (by assumption) (by rfl) dX9_pass_36 ?_
  rw [thr_0]
  refine jj_if_le F (tgt := 44) dX9_pass_39 (by decide) (fun h9 => absurd h9 (by decide)) (fun _ => ?_)
  refine jj_iconst F (v := nI 0) dX9_pass_42 (by decide) ?_
  refine ret _ _ _ _ dX9_pass_43 (by first | rfl | exact nar_z (by first | exact Or.inl rfl | exact Or.inr rfl | exact b2i_01 _ | assumption)) ?_
  exact ⟨rfl, RelM_thr hM, Pub_0⟩
set_option maxRecDepth 100000 in
set_option maxHeartbeats 1000000 in
theorem m_pass_2 {l : Launch} {E : Ee} {M : Mm} {a : Ab} {W : Nat} (hM : RelM M a W) {k : Nat} (hk1 : 1 ≤ k) (hk : k ≤ 1000) (hL : 100000 < a_t a + k) : CtI l E yX9_pass (.code yX9_pass cX9_pass 2 (some .int) :: gl) ({ frames := 1, cells := 0, slots := 0, locals := 23 } : Room) M [.ref (E.2.2 478), .int (nI k)] 0 0 (fun r M2 => r = nI 0 ∧ RelM M2 a W ∧ Pub M M2 2) := by
  refine ctI_of (L0 := [some (.ref (E.2.2 478)), some (.int (nI k))]) (by decide) rfl (Nat.le_of_ble_eq_true rfl) rfl ?_
  intro Z hl hE hnl F ret
  subst hE
  have in_X9 : ∀ w ∈ u_ws RX9 TX9 33, w ∈ (.code yX9_pass cX9_pass 2 (some .int) :: gl) := fun w h => List.mem_cons_of_mem _ (lay_X9 w h)
  have g87 : FG Z 87 9 0 := fg_mk F (C := RX9) (T := TX9) (N := 33) in_X9 rfl (by decide) rfl (List.mem_cons_of_mem _ fk_X9_87)
  have g126 : FG Z 126 9 1 := fg_mk F (C := RX9) (T := TX9) (N := 33) in_X9 rfl (by decide) rfl (List.mem_cons_of_mem _ fk_X9_126)
  have p87 : FP Z 87 9 0 .int := fp_mk F (C := RX9) (T := TX9) (N := 33) in_X9 tyX9_ok nmX9 rfl (by decide) rfl (List.mem_cons_of_mem _ fk_X9_87) rfl (by decide +kernel)
  have p126 : FP Z 126 9 1 .int := fp_mk F (C := RX9) (T := TX9) (N := 33) in_X9 tyX9_ok nmX9 rfl (by decide) rfl (List.mem_cons_of_mem _ fk_X9_126) rfl (by decide +kernel)
  obtain ⟨⟨h60, ht, htk, hn, hop, hac, hun, hopk, ⟨u0, hu1, hu2, hu3⟩, C, hC, hCa⟩, ⟨hlk, hll, hlz⟩, hK, ⟨hln, hl40, htx⟩, L0, hL0⟩ := id hM
  have kM := kd_M
  have k479 := kd_479
  have k480 := kd_480
  have k481 := kd_481
  have k482 := kd_482
  have k483 := kd_483
  have k484 := kd_484
  have k485 := kd_485
  have k486 := kd_486
  have k487 := kd_487
  have k488 := kd_488
  have k489 := kd_489
  have k490 := kd_490
  have k491 := kd_491
  have k492 := kd_492
  have k493 := kd_493
  have k494 := kd_494
  have k495 := kd_495
  have k496 := kd_496
  have k497 := kd_497
  have k498 := kd_498
  have k499 := kd_499
  have k500 := kd_500
  have k501 := kd_501
  have k502 := kd_502
  have k503 := kd_503
  have hw := wi_ok (lo := 1) (c := k) (hi := 1000) (by omega) (by omega) (by omega)
  refine jj_aload_n F dX9_pass_0 rfl ?_
  refine jj_iload_n F dX9_pass_1 rfl ?_
  refine jj_iconst F (v := nI 1) dX9_pass_2 (by decide) ?_
  refine jj_sipush F (v := nI 1000) dX9_pass_3 (by decide) ?_
  refine jj_callSi (na := 3) F c_X9_within (gl_S mk_X9_91 vw_X9_within) rfl rfl rfl (by decide +kernel) ⟨Nat.le_of_ble_eq_true rfl, Nat.le_of_ble_eq_true rfl⟩ rfl rfl (Nat.le_of_ble_eq_true rfl) ⟨Nat.le_of_ble_eq_true rfl, Nat.le_of_ble_eq_true rfl⟩ dX9_pass_6 (fun r6 M6 hp6 => ?_)
  obtain ⟨rfl, rfl⟩ := symm2 hp6
  refine jj_if_ne F (tgt := 16) dX9_pass_9 (by decide) (fun _ => ?_) (fun h9 => absurd h9 (by rw [hw]; decide))
  refine jj_aload_n F dX9_pass_16 rfl ?_
  refine jj_geti F g126 (by assumption) (by rfl) dX9_pass_17 ?_
  rw [htk]
  refine jj_iload_n F dX9_pass_20 rfl ?_
  refine jj_iadd F dX9_pass_21 ?_
  rw [nI_add]
  refine jj_ldc F (v := 100000) dX9_pass_22 (F.hts _ (List.mem_cons_of_mem _ (gl_tb (by decide +kernel) rfl))) ?_
  refine jj_icmp_le F (tgt := 31) dX9_pass_24 (by decide) (fun h9 => absurd h9 (nI_ge (a := 100000) (by omega) (by omega))) (fun _ => ?_)
  refine jj_iconst F (v := nI 2) dX9_pass_27 (by decide) ?_
  refine jj_goto F (tgt := 32) dX9_pass_28 (by decide) ?_
  refine jj_puti F p87 (by assumption) (by rfl) dX9_pass_32 ?_
  refine jj_aload_n F dX9_pass_35 rfl ?_
  refine jj_geti F g87 (by assumption) (by rfl) dX9_pass_36 ?_
  rw [thr_0]
  refine jj_if_le F (tgt := 44) dX9_pass_39 (by decide) (fun h9 => absurd h9 (by decide)) (fun _ => ?_)
  refine jj_iconst F (v := nI 0) dX9_pass_42 (by decide) ?_
  refine ret _ _ _ _ dX9_pass_43 (by first | rfl | exact nar_z (by first | exact Or.inl rfl | exact Or.inr rfl | exact b2i_01 _ | assumption)) ?_
  exact ⟨rfl, RelM_thr hM, Pub_0⟩
set_option maxRecDepth 100000 in
set_option maxHeartbeats 1000000 in
theorem m_pass_0 {l : Launch} {E : Ee} {M : Mm} {a : Ab} {W : Nat} (hM : RelM M a W) {k : Nat} (hk1 : 1 ≤ k) (hk : k ≤ 1000) (hL : a_t a + k ≤ 100000) : CtI l E yX9_pass (.code yX9_pass cX9_pass 2 (some .int) :: gl) ({ frames := 1, cells := 0, slots := 0, locals := 23 } : Room) M [.ref (E.2.2 478), .int (nI k)] 0 0 (fun r M2 => r = nI (a_t a + k) ∧ RelM M2 (pasA a k) W ∧ Pub M M2 0) := by
  refine ctI_of (L0 := [some (.ref (E.2.2 478)), some (.int (nI k))]) (by decide) rfl (Nat.le_of_ble_eq_true rfl) rfl ?_
  intro Z hl hE hnl F ret
  subst hE
  have in_X9 : ∀ w ∈ u_ws RX9 TX9 33, w ∈ (.code yX9_pass cX9_pass 2 (some .int) :: gl) := fun w h => List.mem_cons_of_mem _ (lay_X9 w h)
  have g87 : FG Z 87 9 0 := fg_mk F (C := RX9) (T := TX9) (N := 33) in_X9 rfl (by decide) rfl (List.mem_cons_of_mem _ fk_X9_87)
  have g126 : FG Z 126 9 1 := fg_mk F (C := RX9) (T := TX9) (N := 33) in_X9 rfl (by decide) rfl (List.mem_cons_of_mem _ fk_X9_126)
  have p87 : FP Z 87 9 0 .int := fp_mk F (C := RX9) (T := TX9) (N := 33) in_X9 tyX9_ok nmX9 rfl (by decide) rfl (List.mem_cons_of_mem _ fk_X9_87) rfl (by decide +kernel)
  have p126 : FP Z 126 9 1 .int := fp_mk F (C := RX9) (T := TX9) (N := 33) in_X9 tyX9_ok nmX9 rfl (by decide) rfl (List.mem_cons_of_mem _ fk_X9_126) rfl (by decide +kernel)
  obtain ⟨⟨h60, ht, htk, hn, hop, hac, hun, hopk, ⟨u0, hu1, hu2, hu3⟩, C, hC, hCa⟩, ⟨hlk, hll, hlz⟩, hK, ⟨hln, hl40, htx⟩, L0, hL0⟩ := id hM
  have kM := kd_M
  have k479 := kd_479
  have k480 := kd_480
  have k481 := kd_481
  have k482 := kd_482
  have k483 := kd_483
  have k484 := kd_484
  have k485 := kd_485
  have k486 := kd_486
  have k487 := kd_487
  have k488 := kd_488
  have k489 := kd_489
  have k490 := kd_490
  have k491 := kd_491
  have k492 := kd_492
  have k493 := kd_493
  have k494 := kd_494
  have k495 := kd_495
  have k496 := kd_496
  have k497 := kd_497
  have k498 := kd_498
  have k499 := kd_499
  have k500 := kd_500
  have k501 := kd_501
  have k502 := kd_502
  have k503 := kd_503
  have hw := wi_ok (lo := 1) (c := k) (hi := 1000) (by omega) (by omega) (by omega)
  refine jj_aload_n F dX9_pass_0 rfl ?_
  refine jj_iload_n F dX9_pass_1 rfl ?_
  refine jj_iconst F (v := nI 1) dX9_pass_2 (by decide) ?_
  refine jj_sipush F (v := nI 1000) dX9_pass_3 (by decide) ?_
  refine jj_callSi (na := 3) F c_X9_within (gl_S mk_X9_91 vw_X9_within) rfl rfl rfl (by decide +kernel) ⟨Nat.le_of_ble_eq_true rfl, Nat.le_of_ble_eq_true rfl⟩ rfl rfl (Nat.le_of_ble_eq_true rfl) ⟨Nat.le_of_ble_eq_true rfl, Nat.le_of_ble_eq_true rfl⟩ dX9_pass_6 (fun r6 M6 hp6 => ?_)
  obtain ⟨rfl, rfl⟩ := symm2 hp6
  refine jj_if_ne F (tgt := 16) dX9_pass_9 (by decide) (fun _ => ?_) (fun h9 => absurd h9 (by rw [hw]; decide))
  refine jj_aload_n F dX9_pass_16 rfl ?_
  refine jj_geti F g126 (by assumption) (by rfl) dX9_pass_17 ?_
  rw [htk]
  refine jj_iload_n F dX9_pass_20 rfl ?_
  refine jj_iadd F dX9_pass_21 ?_
  rw [nI_add]
  refine jj_ldc F (v := 100000) dX9_pass_22 (F.hts _ (List.mem_cons_of_mem _ (gl_tb (by decide +kernel) rfl))) ?_
  refine jj_icmp_le F (tgt := 31) dX9_pass_24 (by decide) (fun _ => ?_) (fun h9 => absurd (nI_le (b := 100000) (by omega) (by omega)) h9)
  refine jj_iconst F (v := nI 0) dX9_pass_31 (by decide) ?_
  refine jj_puti F p87 (by assumption) (by rfl) dX9_pass_32 ?_
  refine jj_aload_n F dX9_pass_35 rfl ?_
  refine jj_geti F g87 (by assumption) (by rfl) dX9_pass_36 ?_
  rw [thr_0]
  refine jj_if_le F (tgt := 44) dX9_pass_39 (by decide) (fun _ => ?_) (fun h9 => absurd (by decide) h9)
  refine jj_aload_n F dX9_pass_44 rfl ?_
  refine jj_dup F dX9_pass_45 rfl ?_
  refine jj_geti F g126 (by assumption) (by rfl) dX9_pass_46 ?_
  rw [thr_b _ _ (by decide), htk]
  refine jj_iload_n F dX9_pass_49 rfl ?_
  refine jj_iadd F dX9_pass_50 ?_
  rw [nI_add]
  refine jj_puti F p126 (by assumption) (by rfl) dX9_pass_51 ?_
  refine jj_aload_n F dX9_pass_54 rfl ?_
  refine jj_iconst F (v := -1) dX9_pass_55 (by decide) ?_
  refine jj_callVv (na := 1) F (c_X9_dropLeases (t := a_t a + k) (lk := a_lk a) rfl (by omega) hlk.1 hll (lkR_of hM.2.1) (fun z hz => ⟨(hlk.2 z hz).1, (hlk.2 z hz).2.2.2.2⟩)) (gl_V mk_X9_143 vw_X9_dropLeases) rfl rfl rfl (by decide +kernel) ⟨Nat.le_of_ble_eq_true rfl, Nat.le_of_ble_eq_true rfl⟩ kM rfl rfl rfl (Nat.le_of_ble_eq_true rfl) ⟨Nat.le_of_ble_eq_true rfl, Nat.le_of_ble_eq_true rfl⟩ dX9_pass_56 (fun MD hpD => ?_)
  obtain ⟨f1, f2, f3, f4, rfl, hpD⟩ := hpD
  have hR9 := ml_drop (M := wA (thr M (nI 0)) 478 (upd ((thr M (nI 0)).1 478) 1 (nI (a_t a + k)))) hlk hpD
  have e60 : (wA (quad (wA (thr M (nI 0)) 478 (upd ((thr M (nI 0)).1 478) 1 (nI (a_t a + k)))) f1 f2 f3 f4) 478 (upd ((wA (thr M (nI 0)) 478 (upd ((thr M (nI 0)).1 478) 1 (nI (a_t a + k)))).1 478) 13 (nI ((a_lk a).filter (fun z => decide (a_t a + k < z.2.2.2) && !decide (nI z.1 = -1))).length))).1 478 1 = nI (a_t a + k) := rfl
  refine jj_aload_n F dX9_pass_59 rfl ?_
  refine jj_geti F g126 (by assumption) (by rfl) dX9_pass_60 ?_
  refine jj_topi e60 ?_
  refine ret _ _ _ _ dX9_pass_63 (by first | rfl | exact nar_z (by first | exact Or.inl rfl | exact Or.inr rfl | exact b2i_01 _ | assumption)) ?_
  have h9 := RelM_tl (RelM_thr (x := nI 0) hM) (by omega) hL e60 (fun b hb => by rcases hb with rfl | rfl | rfl <;> rfl) (fun x h1 h2 h3 => by rw [wA_n (by omega), quad_o (by omega), wA_n (by omega)]) rfl hR9
  rw [show tlA a (a_t a + k) _ = pasA a k by unfold tlA pasA; rw [flt_m1 hlk]] at h9
  refine ⟨rfl, h9, ⟨fun x hx => ?_, rfl, rfl⟩⟩
  rw [wA_n (by omega), quad_o (by omega), wA_n (by omega), wA_n (by omega)]
set_option maxRecDepth 100000 in
set_option maxHeartbeats 1000000 in
theorem m_append_1 {l : Launch} {E : Ee} {M : Mm} {a : Ab} {W : Nat} (hM : RelM M a W) {x : Int32} (hw : wiB x (nI 33) (nI 126) = false) : CtI l E yX9_append (.code yX9_append cX9_append 2 (some .int) :: gl) ({ frames := 1, cells := 0, slots := 0, locals := 22 } : Room) M [.ref (E.2.2 478), .int x] 0 0 (fun r M2 => r = nI 0 ∧ RelM M2 a W ∧ Pub M M2 1) := by
  refine ctI_of (L0 := [some (.ref (E.2.2 478)), some (.int x)]) (by decide) rfl (Nat.le_of_ble_eq_true rfl) rfl ?_
  intro Z hl hE hnl F ret
  subst hE
  have in_X9 : ∀ w ∈ u_ws RX9 TX9 33, w ∈ (.code yX9_append cX9_append 2 (some .int) :: gl) := fun w h => List.mem_cons_of_mem _ (lay_X9 w h)
  have g63 : FG Z 63 9 23 := fg_mk F (C := RX9) (T := TX9) (N := 33) in_X9 rfl (by decide) rfl (List.mem_cons_of_mem _ fk_X9_63)
  have g87 : FG Z 87 9 0 := fg_mk F (C := RX9) (T := TX9) (N := 33) in_X9 rfl (by decide) rfl (List.mem_cons_of_mem _ fk_X9_87)
  have g146 : FG Z 146 9 22 := fg_mk F (C := RX9) (T := TX9) (N := 33) in_X9 rfl (by decide) rfl (List.mem_cons_of_mem _ fk_X9_146)
  have p87 : FP Z 87 9 0 .int := fp_mk F (C := RX9) (T := TX9) (N := 33) in_X9 tyX9_ok nmX9 rfl (by decide) rfl (List.mem_cons_of_mem _ fk_X9_87) rfl (by decide +kernel)
  have p146 : FP Z 146 9 22 .int := fp_mk F (C := RX9) (T := TX9) (N := 33) in_X9 tyX9_ok nmX9 rfl (by decide) rfl (List.mem_cons_of_mem _ fk_X9_146) rfl (by decide +kernel)
  obtain ⟨⟨h60, ht, htk, hn, hop, hac, hun, hopk, ⟨u0, hu1, hu2, hu3⟩, C, hC, hCa⟩, ⟨hlk, hll, hlz⟩, hK, ⟨hln, hl40, htx⟩, L0, hL0⟩ := id hM
  have kM := kd_M
  have k479 := kd_479
  have k480 := kd_480
  have k481 := kd_481
  have k482 := kd_482
  have k483 := kd_483
  have k484 := kd_484
  have k485 := kd_485
  have k486 := kd_486
  have k487 := kd_487
  have k488 := kd_488
  have k489 := kd_489
  have k490 := kd_490
  have k491 := kd_491
  have k492 := kd_492
  have k493 := kd_493
  have k494 := kd_494
  have k495 := kd_495
  have k496 := kd_496
  have k497 := kd_497
  have k498 := kd_498
  have k499 := kd_499
  have k500 := kd_500
  have k501 := kd_501
  have k502 := kd_502
  have k503 := kd_503
  refine jj_aload_n F dX9_append_0 rfl ?_
  refine jj_iload_n F dX9_append_1 rfl ?_
  refine jj_bipush F (v := nI 33) dX9_append_2 (by decide) ?_
  refine jj_bipush F (v := nI 126) dX9_append_4 (by decide) ?_
  refine jj_callSi (na := 3) F c_X9_within (gl_S mk_X9_91 vw_X9_within) rfl rfl rfl (by decide +kernel) ⟨Nat.le_of_ble_eq_true rfl, Nat.le_of_ble_eq_true rfl⟩ rfl rfl (Nat.le_of_ble_eq_true rfl) ⟨Nat.le_of_ble_eq_true rfl, Nat.le_of_ble_eq_true rfl⟩ dX9_append_6 (fun r6 M6 hp6 => ?_)
  obtain ⟨rfl, rfl⟩ := symm2 hp6
  refine jj_if_ne F (tgt := 16) dX9_append_9 (by decide) (fun h9 => absurd h9 (fun z => z (by rw [hw]; rfl))) (fun _ => ?_)
  refine jj_iconst F (v := nI 1) dX9_append_12 (by decide) ?_
  refine jj_goto F (tgt := 30) dX9_append_13 (by decide) ?_
  refine jj_puti F p87 (by assumption) (by rfl) dX9_append_30 ?_
  refine jj_aload_n F dX9_append_33 rfl ?_
  refine jj_geti F g87 (by assumption) (by rfl) dX9_append_34 ?_
  rw [thr_0]
  refine jj_if_le F (tgt := 42) dX9_append_37 (by decide) (fun h9 => absurd h9 (by decide)) (fun _ => ?_)
  refine jj_iconst F (v := nI 0) dX9_append_40 (by decide) ?_
  refine ret _ _ _ _ dX9_append_41 (by first | rfl | exact nar_z (by first | exact Or.inl rfl | exact Or.inr rfl | exact b2i_01 _ | assumption)) ?_
  exact ⟨rfl, RelM_thr hM, Pub_0⟩
set_option maxRecDepth 100000 in
set_option maxHeartbeats 1000000 in
theorem m_append_2 {l : Launch} {E : Ee} {M : Mm} {a : Ab} {W : Nat} (hM : RelM M a W) {x : Int32} (hw : wiB x (nI 33) (nI 126) = true) (h40 : a_ln a = 40) : CtI l E yX9_append (.code yX9_append cX9_append 2 (some .int) :: gl) ({ frames := 1, cells := 0, slots := 0, locals := 22 } : Room) M [.ref (E.2.2 478), .int x] 0 0 (fun r M2 => r = nI 0 ∧ RelM M2 a W ∧ Pub M M2 2) := by
  refine ctI_of (L0 := [some (.ref (E.2.2 478)), some (.int x)]) (by decide) rfl (Nat.le_of_ble_eq_true rfl) rfl ?_
  intro Z hl hE hnl F ret
  subst hE
  have in_X9 : ∀ w ∈ u_ws RX9 TX9 33, w ∈ (.code yX9_append cX9_append 2 (some .int) :: gl) := fun w h => List.mem_cons_of_mem _ (lay_X9 w h)
  have g63 : FG Z 63 9 23 := fg_mk F (C := RX9) (T := TX9) (N := 33) in_X9 rfl (by decide) rfl (List.mem_cons_of_mem _ fk_X9_63)
  have g87 : FG Z 87 9 0 := fg_mk F (C := RX9) (T := TX9) (N := 33) in_X9 rfl (by decide) rfl (List.mem_cons_of_mem _ fk_X9_87)
  have g146 : FG Z 146 9 22 := fg_mk F (C := RX9) (T := TX9) (N := 33) in_X9 rfl (by decide) rfl (List.mem_cons_of_mem _ fk_X9_146)
  have p87 : FP Z 87 9 0 .int := fp_mk F (C := RX9) (T := TX9) (N := 33) in_X9 tyX9_ok nmX9 rfl (by decide) rfl (List.mem_cons_of_mem _ fk_X9_87) rfl (by decide +kernel)
  have p146 : FP Z 146 9 22 .int := fp_mk F (C := RX9) (T := TX9) (N := 33) in_X9 tyX9_ok nmX9 rfl (by decide) rfl (List.mem_cons_of_mem _ fk_X9_146) rfl (by decide +kernel)
  obtain ⟨⟨h60, ht, htk, hn, hop, hac, hun, hopk, ⟨u0, hu1, hu2, hu3⟩, C, hC, hCa⟩, ⟨hlk, hll, hlz⟩, hK, ⟨hln, hl40, htx⟩, L0, hL0⟩ := id hM
  have kM := kd_M
  have k479 := kd_479
  have k480 := kd_480
  have k481 := kd_481
  have k482 := kd_482
  have k483 := kd_483
  have k484 := kd_484
  have k485 := kd_485
  have k486 := kd_486
  have k487 := kd_487
  have k488 := kd_488
  have k489 := kd_489
  have k490 := kd_490
  have k491 := kd_491
  have k492 := kd_492
  have k493 := kd_493
  have k494 := kd_494
  have k495 := kd_495
  have k496 := kd_496
  have k497 := kd_497
  have k498 := kd_498
  have k499 := kd_499
  have k500 := kd_500
  have k501 := kd_501
  have k502 := kd_502
  have k503 := kd_503
  refine jj_aload_n F dX9_append_0 rfl ?_
  refine jj_iload_n F dX9_append_1 rfl ?_
  refine jj_bipush F (v := nI 33) dX9_append_2 (by decide) ?_
  refine jj_bipush F (v := nI 126) dX9_append_4 (by decide) ?_
  refine jj_callSi (na := 3) F c_X9_within (gl_S mk_X9_91 vw_X9_within) rfl rfl rfl (by decide +kernel) ⟨Nat.le_of_ble_eq_true rfl, Nat.le_of_ble_eq_true rfl⟩ rfl rfl (Nat.le_of_ble_eq_true rfl) ⟨Nat.le_of_ble_eq_true rfl, Nat.le_of_ble_eq_true rfl⟩ dX9_append_6 (fun r6 M6 hp6 => ?_)
  obtain ⟨rfl, rfl⟩ := symm2 hp6
  refine jj_if_ne F (tgt := 16) dX9_append_9 (by decide) (fun _ => ?_) (fun h9 => absurd h9 (by rw [hw]; decide))
  refine jj_aload_n F dX9_append_16 rfl ?_
  refine jj_geti F g146 (by assumption) (by rfl) dX9_append_17 ?_
  rw [hln]
  refine jj_bipush F (v := nI 40) dX9_append_20 (by decide) ?_
  refine jj_icmp_ne F (tgt := 29) dX9_append_22 (by decide) (fun h9 => absurd h9 (fun z => z (by rw [h40]))) (fun _ => ?_)
  refine jj_iconst F (v := nI 2) dX9_append_25 (by decide) ?_
  refine jj_goto F (tgt := 30) dX9_append_26 (by decide) ?_
  refine jj_puti F p87 (by assumption) (by rfl) dX9_append_30 ?_
  refine jj_aload_n F dX9_append_33 rfl ?_
  refine jj_geti F g87 (by assumption) (by rfl) dX9_append_34 ?_
  rw [thr_0]
  refine jj_if_le F (tgt := 42) dX9_append_37 (by decide) (fun h9 => absurd h9 (by decide)) (fun _ => ?_)
  refine jj_iconst F (v := nI 0) dX9_append_40 (by decide) ?_
  refine ret _ _ _ _ dX9_append_41 (by first | rfl | exact nar_z (by first | exact Or.inl rfl | exact Or.inr rfl | exact b2i_01 _ | assumption)) ?_
  exact ⟨rfl, RelM_thr hM, Pub_0⟩
theorem RelM_app {M M2 : Mm} {a : Ab} {W : Nat} {x : Int32} (hM : RelM M a W) (h40 : a_ln a < 40) (h478 : ∀ b, b = 1 ∨ b = 2 ∨ b = 11 ∨ b = 13 → M2.1 478 b = M.1 478 b) (h22 : M2.1 478 22 = nI (a_ln a + 1)) (hot : ∀ x, 479 ≤ x → x ≤ 495 → M2.1 x = M.1 x) (h496 : M2.1 496 = upd (M.1 496) (a_ln a) x) (hs : M2.2 = M.2) : RelM M2 (appA a x) W := by
  obtain ⟨⟨o1, o2, o3, o4, o5, o6, o7, o8, ⟨u, u1, u2, u3⟩, C, o9, o10⟩, ⟨l1, l2, l3⟩, hK, ⟨t1, t2, t3⟩, L, hL⟩ := hM
  refine ⟨⟨o1, o2, by rw [h478 1 (by simp)]; exact o3, by rw [h478 2 (by simp)]; exact o4, fun i hi b hb => by rw [hot _ (by omega) (by omega)]; exact o5 i hi b hb, fun i hi => by rw [hot 485 (by omega) (by omega)]; exact o6 i hi, fun i hi => by rw [hot 486 (by omega) (by omega)]; exact o7 i hi, o8, ⟨u, u1, by rw [h478 11 (by simp)]; exact u2, u3⟩, C, by rw [hs]; exact o9, o10⟩, ⟨l1, by rw [h478 13 (by simp)]; exact l2, fun j z hz => by rw [hot 488 (by omega) (by omega), hot 489 (by omega) (by omega), hot 490 (by omega) (by omega), hot 491 (by omega) (by omega)]; exact l3 j z hz⟩, fun m hm => by rw [hot 495 (by omega) (by omega), hot 492 (by omega) (by omega), hot 493 (by omega) (by omega), hs]; exact hK m hm, ⟨h22, h40, fun i hi => ?_⟩, L, by rw [hs]; exact hL⟩
  rw [h496]
  have hi : i < a_ln a + 1 := hi
  show upd (M.1 496) (a_ln a) x i = (if i = a_ln a then x else a_cd a i)
  by_cases q : i = a_ln a
  · rw [if_pos q, q]; simp [upd]
  · rw [if_neg q]; simp only [upd, if_neg q]; exact t3 i (by omega)
theorem RelM_clb {M M2 : Mm} {a : Ab} {W : Nat} (hM : RelM M a W) (h478 : ∀ b, b = 1 ∨ b = 2 ∨ b = 11 ∨ b = 13 → M2.1 478 b = M.1 478 b) (h22 : M2.1 478 22 = nI 0) (hot : ∀ x, 479 ≤ x → x ≤ 495 → M2.1 x = M.1 x) (h87 : ∃ C : Nat → Nat → Bool, M2.2 487 = lws C ∧ ∀ i, i < a_n a → ∀ c, c < 256 → C i c = a_C a i c) (h94 : M2.2 494 = M.2 494) (h97 : ∃ L, M2.2 497 = lws L) : RelM M2 (clbA a) W := by
  obtain ⟨⟨o1, o2, o3, o4, o5, o6, o7, o8, ⟨u, u1, u2, u3⟩, C, o9, o10⟩, ⟨l1, l2, l3⟩, hK, ⟨t1, t2, t3⟩, -⟩ := hM
  exact ⟨⟨o1, o2, by rw [h478 1 (by simp)]; exact o3, by rw [h478 2 (by simp)]; exact o4, fun i hi b hb => by rw [hot _ (by omega) (by omega)]; exact o5 i hi b hb, fun i hi => by rw [hot 485 (by omega) (by omega)]; exact o6 i hi, fun i hi => by rw [hot 486 (by omega) (by omega)]; exact o7 i hi, o8, ⟨u, u1, by rw [h478 11 (by simp)]; exact u2, u3⟩, h87⟩, ⟨l1, by rw [h478 13 (by simp)]; exact l2, fun j z hz => by rw [hot 488 (by omega) (by omega), hot 489 (by omega) (by omega), hot 490 (by omega) (by omega), hot 491 (by omega) (by omega)]; exact l3 j z hz⟩, fun m hm => by rw [hot 495 (by omega) (by omega), hot 492 (by omega) (by omega), hot 493 (by omega) (by omega), h94]; exact hK m hm, ⟨h22, Nat.zero_le _, fun i hi => absurd hi (Nat.not_lt_zero i)⟩, h97⟩
set_option maxRecDepth 100000 in
set_option maxHeartbeats 1000000 in
theorem m_append_0 {l : Launch} {E : Ee} {M : Mm} {a : Ab} {W : Nat} (hM : RelM M a W) {x : Int32} (hw : wiB x (nI 33) (nI 126) = true) (h40 : a_ln a < 40) : CtI l E yX9_append (.code yX9_append cX9_append 2 (some .int) :: gl) ({ frames := 1, cells := 0, slots := 0, locals := 22 } : Room) M [.ref (E.2.2 478), .int x] 0 0 (fun r M2 => r = nI (a_ln a + 1) ∧ RelM M2 (appA a x) W ∧ Pub M M2 0) := by
  refine ctI_of (L0 := [some (.ref (E.2.2 478)), some (.int x)]) (by decide) rfl (Nat.le_of_ble_eq_true rfl) rfl ?_
  intro Z hl hE hnl F ret
  subst hE
  have in_X9 : ∀ w ∈ u_ws RX9 TX9 33, w ∈ (.code yX9_append cX9_append 2 (some .int) :: gl) := fun w h => List.mem_cons_of_mem _ (lay_X9 w h)
  have g63 : FG Z 63 9 23 := fg_mk F (C := RX9) (T := TX9) (N := 33) in_X9 rfl (by decide) rfl (List.mem_cons_of_mem _ fk_X9_63)
  have g87 : FG Z 87 9 0 := fg_mk F (C := RX9) (T := TX9) (N := 33) in_X9 rfl (by decide) rfl (List.mem_cons_of_mem _ fk_X9_87)
  have g146 : FG Z 146 9 22 := fg_mk F (C := RX9) (T := TX9) (N := 33) in_X9 rfl (by decide) rfl (List.mem_cons_of_mem _ fk_X9_146)
  have p87 : FP Z 87 9 0 .int := fp_mk F (C := RX9) (T := TX9) (N := 33) in_X9 tyX9_ok nmX9 rfl (by decide) rfl (List.mem_cons_of_mem _ fk_X9_87) rfl (by decide +kernel)
  have p146 : FP Z 146 9 22 .int := fp_mk F (C := RX9) (T := TX9) (N := 33) in_X9 tyX9_ok nmX9 rfl (by decide) rfl (List.mem_cons_of_mem _ fk_X9_146) rfl (by decide +kernel)
  obtain ⟨⟨h60, ht, htk, hn, hop, hac, hun, hopk, ⟨u0, hu1, hu2, hu3⟩, C, hC, hCa⟩, ⟨hlk, hll, hlz⟩, hK, ⟨hln, hl40, htx⟩, L0, hL0⟩ := id hM
  have kM := kd_M
  have k479 := kd_479
  have k480 := kd_480
  have k481 := kd_481
  have k482 := kd_482
  have k483 := kd_483
  have k484 := kd_484
  have k485 := kd_485
  have k486 := kd_486
  have k487 := kd_487
  have k488 := kd_488
  have k489 := kd_489
  have k490 := kd_490
  have k491 := kd_491
  have k492 := kd_492
  have k493 := kd_493
  have k494 := kd_494
  have k495 := kd_495
  have k496 := kd_496
  have k497 := kd_497
  have k498 := kd_498
  have k499 := kd_499
  have k500 := kd_500
  have k501 := kd_501
  have k502 := kd_502
  have k503 := kd_503
  refine jj_aload_n F dX9_append_0 rfl ?_
  refine jj_iload_n F dX9_append_1 rfl ?_
  refine jj_bipush F (v := nI 33) dX9_append_2 (by decide) ?_
  refine jj_bipush F (v := nI 126) dX9_append_4 (by decide) ?_
  refine jj_callSi (na := 3) F c_X9_within (gl_S mk_X9_91 vw_X9_within) rfl rfl rfl (by decide +kernel) ⟨Nat.le_of_ble_eq_true rfl, Nat.le_of_ble_eq_true rfl⟩ rfl rfl (Nat.le_of_ble_eq_true rfl) ⟨Nat.le_of_ble_eq_true rfl, Nat.le_of_ble_eq_true rfl⟩ dX9_append_6 (fun r6 M6 hp6 => ?_)
  obtain ⟨rfl, rfl⟩ := symm2 hp6
  refine jj_if_ne F (tgt := 16) dX9_append_9 (by decide) (fun _ => ?_) (fun h9 => absurd h9 (by rw [hw]; decide))
  refine jj_aload_n F dX9_append_16 rfl ?_
  refine jj_geti F g146 (by assumption) (by rfl) dX9_append_17 ?_
  rw [hln]
  refine jj_bipush F (v := nI 40) dX9_append_20 (by decide) ?_
  refine jj_icmp_ne F (tgt := 29) dX9_append_22 (by decide) (fun _ => ?_) (fun h9 => absurd h9 (fun z => by have := (nI_eq (by omega) (by omega)).mp z; omega))
  refine jj_iconst F (v := nI 0) dX9_append_29 (by decide) ?_
  refine jj_puti F p87 (by assumption) (by rfl) dX9_append_30 ?_
  refine jj_aload_n F dX9_append_33 rfl ?_
  refine jj_geti F g87 (by assumption) (by rfl) dX9_append_34 ?_
  rw [thr_0]
  refine jj_if_le F (tgt := 42) dX9_append_37 (by decide) (fun _ => ?_) (fun h9 => absurd (by decide) h9)
  refine jj_aload_n F dX9_append_42 rfl ?_
  refine jj_getr F g63 (by assumption) (by rfl) dX9_append_43 ?_
  refine jj_aload_n F dX9_append_46 rfl ?_
  refine jj_geti F g146 (by assumption) (by rfl) dX9_append_47 ?_
  refine jj_topi (show _ = nI (a_ln a) from hln) ?_
  refine jj_iload_n F dX9_append_50 rfl ?_
  refine jj_iast F (by assumption) rfl (by omega) dX9_append_51 ?_
  refine jj_aload_n F dX9_append_52 rfl ?_
  refine jj_dup F dX9_append_53 rfl ?_
  refine jj_geti F g146 (by assumption) (by rfl) dX9_append_54 ?_
  refine jj_topi (show _ = nI (a_ln a) from hln) ?_
  refine jj_iconst F (v := nI 1) dX9_append_57 (by decide) ?_
  refine jj_iadd F dX9_append_58 ?_
  rw [nI_add]
  refine jj_puti F p146 (by assumption) (by rfl) dX9_append_59 ?_
  refine jj_aload_n F dX9_append_62 rfl ?_
  refine jj_geti F g146 (by assumption) (by rfl) dX9_append_63 ?_
  refine jj_topi (show _ = nI (a_ln a + 1) from rfl) ?_
  refine ret _ _ _ _ dX9_append_66 (by first | rfl | exact nar_z (by first | exact Or.inl rfl | exact Or.inr rfl | exact b2i_01 _ | assumption)) ?_
  refine ⟨rfl, RelM_app hM h40 (fun b hb => ?_) rfl (fun y h1 h2 => ?_) rfl rfl, fun y hy => ?_, rfl, rfl⟩
  · rcases hb with rfl | rfl | rfl | rfl <;> rfl
  · rw [wA_n (by omega), wA_n (by omega), wA_n (by omega)]
  · rw [wA_n (by omega), wA_n (by omega), wA_n (by omega)]
set_option maxRecDepth 100000 in
set_option maxHeartbeats 1000000 in
theorem m_clearBuffer_0 {l : Launch} {E : Ee} {M : Mm} {a : Ab} {W : Nat} (hM : RelM M a W) : CtI l E yX9_clearBuffer (.code yX9_clearBuffer cX9_clearBuffer 2 (some .int) :: gl) ({ frames := 0, cells := 0, slots := 0, locals := 0 } : Room) M [.ref (E.2.2 478)] 0 0 (fun r M2 => r = nI (a_ln a) ∧ RelM M2 (clbA a) W ∧ Pub M M2 0) := by
  refine ctI_of (L0 := [some (.ref (E.2.2 478)), none]) (by decide) rfl (Nat.le_of_ble_eq_true rfl) rfl ?_
  intro Z hl hE hnl F ret
  subst hE
  have in_X9 : ∀ w ∈ u_ws RX9 TX9 33, w ∈ (.code yX9_clearBuffer cX9_clearBuffer 2 (some .int) :: gl) := fun w h => List.mem_cons_of_mem _ (lay_X9 w h)
  have g146 : FG Z 146 9 22 := fg_mk F (C := RX9) (T := TX9) (N := 33) in_X9 rfl (by decide) rfl (List.mem_cons_of_mem _ fk_X9_146)
  have p87 : FP Z 87 9 0 .int := fp_mk F (C := RX9) (T := TX9) (N := 33) in_X9 tyX9_ok nmX9 rfl (by decide) rfl (List.mem_cons_of_mem _ fk_X9_87) rfl (by decide +kernel)
  have p146 : FP Z 146 9 22 .int := fp_mk F (C := RX9) (T := TX9) (N := 33) in_X9 tyX9_ok nmX9 rfl (by decide) rfl (List.mem_cons_of_mem _ fk_X9_146) rfl (by decide +kernel)
  obtain ⟨⟨h60, ht, htk, hn, hop, hac, hun, hopk, ⟨u0, hu1, hu2, hu3⟩, C, hC, hCa⟩, ⟨hlk, hll, hlz⟩, hK, ⟨hln, hl40, htx⟩, L0, hL0⟩ := id hM
  have kM := kd_M
  have k479 := kd_479
  have k480 := kd_480
  have k481 := kd_481
  have k482 := kd_482
  have k483 := kd_483
  have k484 := kd_484
  have k485 := kd_485
  have k486 := kd_486
  have k487 := kd_487
  have k488 := kd_488
  have k489 := kd_489
  have k490 := kd_490
  have k491 := kd_491
  have k492 := kd_492
  have k493 := kd_493
  have k494 := kd_494
  have k495 := kd_495
  have k496 := kd_496
  have k497 := kd_497
  have k498 := kd_498
  have k499 := kd_499
  have k500 := kd_500
  have k501 := kd_501
  have k502 := kd_502
  have k503 := kd_503
  refine jj_aload_n F dX9_clearBuffer_0 rfl ?_
  refine jj_iconst F (v := nI 0) dX9_clearBuffer_1 (by decide) ?_
  refine jj_puti F p87 (by assumption) (by rfl) dX9_clearBuffer_2 ?_
  refine jj_aload_n F dX9_clearBuffer_5 rfl ?_
  refine jj_geti F g146 (by assumption) (by rfl) dX9_clearBuffer_6 ?_
  refine jj_topi (show _ = nI (a_ln a) from hln) ?_
  refine jj_istore_n F dX9_clearBuffer_9 (by rw [hnl]; decide) ?_
  dsimp only [lq_st, lq_clr, lq_no]
  refine jj_aload_n F dX9_clearBuffer_10 rfl ?_
  refine jj_iconst F (v := nI 0) dX9_clearBuffer_11 (by decide) ?_
  refine jj_puti F p146 (by assumption) (by rfl) dX9_clearBuffer_12 ?_
  refine jj_iload_n F dX9_clearBuffer_15 rfl ?_
  refine ret _ _ _ _ dX9_clearBuffer_16 (by first | rfl | exact nar_z (by first | exact Or.inl rfl | exact Or.inr rfl | exact b2i_01 _ | assumption)) ?_
  refine ⟨rfl, RelM_clb hM (fun b hb => ?_) rfl (fun y h1 h2 => ?_) ⟨C, hC, hCa⟩ rfl hM.2.2.2.2, fun y hy => ?_, rfl, rfl⟩
  · rcases hb with rfl | rfl | rfl | rfl <;> rfl
  · rw [wA_n (by omega), wA_n (by omega)]
  · rw [wA_n (by omega), wA_n (by omega)]
abbrev feA (a : Ab) : Int32 := nI (rdF (a_cd a) (a_ln a) 0 (0, none, fun _ => 0)).1
theorem Pub_num {M M2 : Mm} {e : Nat} (h : NumF (thr M (nI e)) M2) : Pub M M2 e := by
  obtain ⟨x, g, rfl⟩ := h
  exact ⟨fun y hy => by rw [wA_n (by omega), wA_n (by omega), wA_n (by omega)], rfl, rfl⟩
set_option maxRecDepth 100000 in
set_option maxHeartbeats 1000000 in
theorem m_firstError_0 {l : Launch} {E : Ee} {M : Mm} {a : Ab} {W : Nat} (hM : RelM M a W) : CtI l E yX9_firstError (.code yX9_firstError cX9_firstError 1 (some .int) :: gl) ({ frames := 3, cells := 0, slots := 0, locals := 66 } : Room) M [.ref (E.2.2 478)] 0 0 (fun r M2 => r = feA a ∧ RelM M2 a W ∧ Pub M M2 0) := by
  refine ctI_of (L0 := [some (.ref (E.2.2 478))]) (by decide) rfl (Nat.le_of_ble_eq_true rfl) rfl ?_
  intro Z hl hE hnl F ret
  subst hE
  have in_X9 : ∀ w ∈ u_ws RX9 TX9 33, w ∈ (.code yX9_firstError cX9_firstError 1 (some .int) :: gl) := fun w h => List.mem_cons_of_mem _ (lay_X9 w h)
  have p87 : FP Z 87 9 0 .int := fp_mk F (C := RX9) (T := TX9) (N := 33) in_X9 tyX9_ok nmX9 rfl (by decide) rfl (List.mem_cons_of_mem _ fk_X9_87) rfl (by decide +kernel)
  obtain ⟨⟨h60, ht, htk, hn, hop, hac, hun, hopk, ⟨u0, hu1, hu2, hu3⟩, C, hC, hCa⟩, ⟨hlk, hll, hlz⟩, hK, ⟨hln, hl40, htx⟩, L0, hL0⟩ := id hM
  have kM := kd_M
  have k479 := kd_479
  have k480 := kd_480
  have k481 := kd_481
  have k482 := kd_482
  have k483 := kd_483
  have k484 := kd_484
  have k485 := kd_485
  have k486 := kd_486
  have k487 := kd_487
  have k488 := kd_488
  have k489 := kd_489
  have k490 := kd_490
  have k491 := kd_491
  have k492 := kd_492
  have k493 := kd_493
  have k494 := kd_494
  have k495 := kd_495
  have k496 := kd_496
  have k497 := kd_497
  have k498 := kd_498
  have k499 := kd_499
  have k500 := kd_500
  have k501 := kd_501
  have k502 := kd_502
  have k503 := kd_503
  refine jj_aload_n F dX9_firstError_0 rfl ?_
  refine jj_iconst F (v := nI 0) dX9_firstError_1 (by decide) ?_
  refine jj_puti F p87 (by assumption) (by rfl) dX9_firstError_2 ?_
  refine jj_aload_n F dX9_firstError_5 rfl ?_
  refine jj_callVi (na := 0) F (c_X9_read (M := thr M (nI 0)) (len := a_ln a) hln hl40) (gl_V mk_X9_156 vw_X9_read) rfl rfl rfl (by decide +kernel) ⟨Nat.le_of_ble_eq_true rfl, Nat.le_of_ble_eq_true rfl⟩ kM rfl rfl rfl (Nat.le_of_ble_eq_true rfl) ⟨Nat.le_of_ble_eq_true rfl, Nat.le_of_ble_eq_true rfl⟩ dX9_firstError_6 (fun r6 M6 hp6 => ?_)
  refine ret _ _ _ _ dX9_firstError_9 (by first | rfl | exact nar_z (by first | exact Or.inl rfl | exact Or.inr rfl | exact b2i_01 _ | assumption)) ?_
  refine ⟨?_, RelM_num (RelM_thr hM) hp6.2.2, Pub_num hp6.2.2⟩
  rw [hp6.1]
  exact congrArg nI (rd_path (fun j hj => htx j hj)).1
