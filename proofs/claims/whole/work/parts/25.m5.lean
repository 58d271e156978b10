set_option maxRecDepth 100000 in
set_option maxHeartbeats 1000000 in
theorem c_X9_wasActive {l : Launch} {E : Ee} {M : Mm} {m k : Nat} (hm : m < 6) (hk : k < 64) : CtI l E yX9_wasActive (.code yX9_wasActive cX9_wasActive 3 (some .boolean) :: gl) ({ frames := 0, cells := 0, slots := 0, locals := 0 } : Room) M [.ref (E.2.2 478), .int (nI m), .int (nI k)] 0 0 (fun r M2 => r = b2i (bl (M.2 494 m) k) ∧ M2 = M) := by
  refine ctI_of (L0 := [some (.ref (E.2.2 478)), some (.int (nI m)), some (.int (nI k))]) (by decide) rfl (Nat.le_of_ble_eq_true rfl) rfl ?_
  intro Z hl hE hnl F ret
  subst hE
  have in_X9 : ∀ w ∈ u_ws RX9 TX9 33, w ∈ (.code yX9_wasActive cX9_wasActive 3 (some .boolean) :: gl) := fun w h => List.mem_cons_of_mem _ (lay_X9 w h)
  have g57 : FG Z 57 9 20 := fg_mk F (C := RX9) (T := TX9) (N := 33) in_X9 rfl (by decide) rfl (List.mem_cons_of_mem _ fk_X9_57)
  have kM := kd_M
  have k479 := kd_479
  have k480 := kd_480
  have k481 := kd_481
  have k482 := kd_482
  have k483 := kd_483
  have k484 := kd_484
  have k485 := kd_485
  have k486 := kd_486
  have k487 := kd_487
  have k488 := kd_488
  have k489 := kd_489
  have k490 := kd_490
  have k491 := kd_491
  have k492 := kd_492
  have k493 := kd_493
  have k494 := kd_494
  have k495 := kd_495
  have k496 := kd_496
  have k497 := kd_497
  have k498 := kd_498
  have k499 := kd_499
  have k500 := kd_500
  have k501 := kd_501
  have k502 := kd_502
  have k503 := kd_503
  refine jj_aload_n F dX9_wasActive_0 rfl ?_
  refine jj_getr F g57 (by assumption) (by rfl) dX9_wasActive_1 ?_
  refine jj_iload_n F dX9_wasActive_4 rfl ?_
  refine jj_lald F (by assumption) rfl (by omega) dX9_wasActive_5 ?_
  refine jj_iload_n F dX9_wasActive_6 rfl ?_
  refine jj_lushr F dX9_wasActive_7 ?_
  refine jj_lconst F (v := lN 1) dX9_wasActive_8 (by decide) ?_
  refine jj_land F dX9_wasActive_9 ?_
  rw [bl_bit _ (by omega)]
  refine jj_lconst F (v := lN 1) dX9_wasActive_10 (by decide) ?_
  refine jj_lcmp F dX9_wasActive_11 ?_
  refine jj_if_ne F (tgt := 19) dX9_wasActive_12 (by decide) (fun h12 => ?_) (fun h12 => ?_)
  · refine jj_iconst F (v := nI 0) dX9_wasActive_19 (by decide) ?_
    refine ret _ _ _ _ dX9_wasActive_20 (nar_z (Or.inl rfl)) ⟨b2i_f ?_, rfl⟩
    cases hb : bl (M.2 494 m) k with
    | false => rfl
    | true => exact absurd ((cmp_bit _).mpr hb) h12
  · refine jj_iconst F (v := nI 1) dX9_wasActive_15 (by decide) ?_
    refine jj_goto F (tgt := 20) dX9_wasActive_16 (by decide) ?_
    refine ret _ _ _ _ dX9_wasActive_20 (nar_z (Or.inr rfl)) ⟨b2i_t ?_, rfl⟩
    exact (cmp_bit _).mp h12
set_option maxRecDepth 100000 in
set_option maxHeartbeats 1000000 in
theorem c_X9_layMark {l : Launch} {E : Ee} {M : Mm} {a : Ab} {W : Nat} (hM : RelM M a W) {m : Nat} (hm : m < 6) (hset : (a_mk a m).1 = true) : CtV l E yX9_layMark (.code yX9_layMark cX9_layMark 3 none :: gl) ({ frames := 3, cells := 0, slots := 0, locals := 73 } : Room) M [.ref (E.2.2 478), .int (nI m)] 0 0 (fun M2 => LayP M M2 a (a_mk a m).2.2.1 (a_mk a m).2.1 (nI (a_mk a m).2.2.2)) := by
  refine ctV_of (L0 := [some (.ref (E.2.2 478)), some (.int (nI m)), none]) (by decide) rfl (Nat.le_of_ble_eq_true rfl) rfl ?_
  intro Z hl hE hnl F ret
  subst hE
  have in_X9 : ∀ w ∈ u_ws RX9 TX9 33, w ∈ (.code yX9_layMark cX9_layMark 3 none :: gl) := fun w h => List.mem_cons_of_mem _ (lay_X9 w h)
  have g51 : FG Z 51 9 18 := fg_mk F (C := RX9) (T := TX9) (N := 33) in_X9 rfl (by decide) rfl (List.mem_cons_of_mem _ fk_X9_51)
  have g54 : FG Z 54 9 19 := fg_mk F (C := RX9) (T := TX9) (N := 33) in_X9 rfl (by decide) rfl (List.mem_cons_of_mem _ fk_X9_54)
  have g69 : FG Z 69 9 25 := fg_mk F (C := RX9) (T := TX9) (N := 33) in_X9 rfl (by decide) rfl (List.mem_cons_of_mem _ fk_X9_69)
  obtain ⟨⟨h60, ht, htk, hn, hop, hac, hun, hopk, ⟨u0, hu1, hu2, hu3⟩, C, hC, hCa⟩, ⟨hlk, hll, hlz⟩, hK, ⟨hln, hl40, htx⟩, L0, hL0⟩ := id hM
  have kM := kd_M
  have k479 := kd_479
  have k480 := kd_480
  have k481 := kd_481
  have k482 := kd_482
  have k483 := kd_483
  have k484 := kd_484
  have k485 := kd_485
  have k486 := kd_486
  have k487 := kd_487
  have k488 := kd_488
  have k489 := kd_489
  have k490 := kd_490
  have k491 := kd_491
  have k492 := kd_492
  have k493 := kd_493
  have k494 := kd_494
  have k495 := kd_495
  have k496 := kd_496
  have k497 := kd_497
  have k498 := kd_498
  have k499 := kd_499
  have k500 := kd_500
  have k501 := kd_501
  have k502 := kd_502
  have k503 := kd_503
  obtain ⟨hk1, hk2, hk3, hk4⟩ := (hK m hm).2 hset
  have lo : ∀ i, i ≤ (a_mk a m).2.1 → JJ Z (0, 0) (wA M 498 (fl i (fun k => b2i ((a_mk a m).2.2.1 k)) (M.1 498))) 2 [some (.ref ((zE Z).2.2 478)), some (.int (nI m)), some (.int (nI i))] [] := by
    refine jj_loop ((a_mk a m).2.1) ?_ ?_
    · refine jj_iload_n F dX9_layMark_2 rfl ?_
      refine jj_aload_n F dX9_layMark_3 rfl ?_
      refine jj_getr F g51 (by assumption) (by rfl) dX9_layMark_4 ?_
      refine jj_iload_n F dX9_layMark_7 rfl ?_
      refine jj_iald F (by assumption) rfl (by omega) dX9_layMark_8 ?_
      rw [wA_1n (by decide), hk1]
      refine jj_icmp_ge F (tgt := 30) dX9_layMark_9 (by decide) (fun _ => ?_) (fun h9 => absurd (nI_le (by omega) (by omega)) h9)
      refine jj_aload_n F dX9_layMark_30 rfl ?_
      refine jj_aload_n F dX9_layMark_31 rfl ?_
      refine jj_getr F g51 (by assumption) (by rfl) dX9_layMark_32 ?_
      refine jj_iload_n F dX9_layMark_35 rfl ?_
      refine jj_iald F (by assumption) rfl (by omega) dX9_layMark_36 ?_
      rw [wA_1n (by decide), hk1]
      refine jj_callVv (na := 1) F (c_X9_layLeft (L := L0) (C := C) (M := wA M 498 (fl (a_mk a m).2.1 (fun k => b2i ((a_mk a m).2.2.1 k)) (M.1 498))) hL0 hC (by omega)) (gl_V mk_X9_119 vw_X9_layLeft) rfl rfl rfl (by decide +kernel) ⟨Nat.le_of_ble_eq_true rfl, Nat.le_of_ble_eq_true rfl⟩ (by assumption) rfl rfl rfl (Nat.le_of_ble_eq_true rfl) ⟨Nat.le_of_ble_eq_true rfl, Nat.le_of_ble_eq_true rfl⟩ dX9_layMark_37 (fun M33 hp33 => ?_)
      obtain rfl := hp33.symm
      refine jj_aload_n F dX9_layMark_40 rfl ?_
      refine jj_aload_n F dX9_layMark_41 rfl ?_
      refine jj_getr F g51 (by assumption) (by rfl) dX9_layMark_42 ?_
      refine jj_iload_n F dX9_layMark_45 rfl ?_
      refine jj_iald F (by assumption) rfl (by omega) dX9_layMark_46 ?_
      rw [wL_1, wA_1n (by decide), hk1]
      refine jj_aload_n F dX9_layMark_47 rfl ?_
      refine jj_getr F g54 (by assumption) (by rfl) dX9_layMark_48 ?_
      refine jj_iload_n F dX9_layMark_51 rfl ?_
      refine jj_iald F (by assumption) rfl (by omega) dX9_layMark_52 ?_
      rw [wL_1, wA_1n (by decide), hk3]
      refine jj_callVv (na := 2) F (c_X9_layTop (wL_s _ _ _) (by omega)) (gl_V mk_X9_122 vw_X9_layTop) rfl rfl rfl (by decide +kernel) ⟨Nat.le_of_ble_eq_true rfl, Nat.le_of_ble_eq_true rfl⟩ (by assumption) rfl rfl rfl (Nat.le_of_ble_eq_true rfl) ⟨Nat.le_of_ble_eq_true rfl, Nat.le_of_ble_eq_true rfl⟩ dX9_layMark_53 (fun M42 hp42 => ?_)
      obtain rfl := hp42.symm
      refine ret _ _ _ dX9_layMark_56 ?_
      refine ⟨_, _, _, rfl, fun i hi => fl_in hi, ?_, ?_⟩
      · exact LM_LSa (fun i hi b hb => by rw [wA_n (by omega)]; exact hop i (by omega) b hb) (fun i hi => by rw [wA_1s]; exact fl_in hi) (fun i hi => hCa i (by omega)) (opOk_er (fun i hi => hopk i (by omega)))
      · intro c hc
        show numI _ = numI _
        congr 1
        refine tpM_cong (fun k hk => ⟨hop k (by omega) 2 (by omega), ?_, ?_⟩)
        · show vanI (M.1 483 k) (M.1 484 k) _ = vanI _ _ _
          rw [show M.1 483 k = a_op a k 4 from hop k (by omega) 4 (by omega), show M.1 484 k = a_op a k 5 from hop k (by omega) 5 (by omega)]
        · exact LM_LSa (fun i hi b hb => by rw [wA_n (by omega)]; exact hop i (by omega) b hb) (fun i hi => by rw [wA_1s]; exact fl_in hi) (fun i hi => hCa i (by omega)) (opOk_er (fun i hi => hopk i (by omega))) k hk c hc
    · intro i hi ih
      refine jj_iload_n F dX9_layMark_2 rfl ?_
      refine jj_aload_n F dX9_layMark_3 rfl ?_
      refine jj_getr F g51 (by assumption) (by rfl) dX9_layMark_4 ?_
      refine jj_iload_n F dX9_layMark_7 rfl ?_
      refine jj_iald F (by assumption) rfl (by omega) dX9_layMark_8 ?_
      rw [wA_1n (by decide), hk1]
      refine jj_icmp_ge F (tgt := 30) dX9_layMark_9 (by decide) (fun h9 => absurd h9 (nI_ge (by omega) (by omega))) (fun _ => ?_)
      refine jj_aload_n F dX9_layMark_12 rfl ?_
      refine jj_getr F g69 (by assumption) (by rfl) dX9_layMark_13 ?_
      refine jj_iload_n F dX9_layMark_16 rfl ?_
      refine jj_aload_n F dX9_layMark_17 rfl ?_
      refine jj_iload_n F dX9_layMark_18 rfl ?_
      refine jj_iload_n F dX9_layMark_19 rfl ?_
      refine jj_callVi (na := 2) F (c_X9_wasActive (by omega) (by omega)) (gl_V mk_X9_247 vw_X9_wasActive) rfl rfl rfl (by decide +kernel) ⟨Nat.le_of_ble_eq_true rfl, Nat.le_of_ble_eq_true rfl⟩ (by assumption) rfl rfl rfl (Nat.le_of_ble_eq_true rfl) ⟨Nat.le_of_ble_eq_true rfl, Nat.le_of_ble_eq_true rfl⟩ dX9_layMark_20 (fun r20 M20 hp20 => ?_)
      obtain ⟨rfl, rfl⟩ := symm2 hp20
      rw [wA_2, hk4 i hi]
      refine jj_zast F (by assumption) rfl (by omega) (by first | exact Or.inl rfl | exact Or.inr rfl | exact b2i_01 _ | assumption) dX9_layMark_23 ?_
      refine jj_iinc F dX9_layMark_24 rfl (by first | exact iinc1 _ | rfl) (by rw [hnl]; decide) ?_
      dsimp only [lq_st, lq_clr, lq_no]
      refine jj_goto F (tgt := 2) dX9_layMark_27 (by decide) ?_
      rw [fl_put rfl]
      exact ih
  refine jj_iconst F (v := nI 0) dX9_layMark_0 (by decide) ?_
  refine jj_istore_n F dX9_layMark_1 (by rw [hnl]; decide) ?_
  dsimp only [lq_st, lq_clr, lq_no]
  refine jj_eqM (fl_0 M 498 (fun k => b2i ((a_mk a m).2.2.1 k))) ?_
  exact lo 0 (by omega)
/-- what the reference's questions leave alone -/
def Fr (M M2 : Mm) : Prop := (∀ x, x ≤ 478 → M2.1 x = M.1 x) ∧ M2.2 478 = M.2 478 ∧ M2.2 504 = M.2 504
theorem Fr_rf (M : Mm) : Fr M M := ⟨fun _ _ => rfl, rfl, rfl⟩
theorem Fr_tr {M M2 M3 : Mm} (h : Fr M M2) (h2 : Fr M2 M3) : Fr M M3 := ⟨fun x hx => (h2.1 x hx).trans (h.1 x hx), h2.2.1.trans h.2.1, h2.2.2.trans h.2.2⟩
theorem Fr_lay {M M2 : Mm} {a : Ab} {go : Nat → Bool} {n : Nat} {t : Int32} (h : LayP M M2 a go n t) : Fr M M2 := by
  obtain ⟨g, L, f, rfl, -⟩ := h
  exact ⟨fun x hx => by rw [wA_n (by omega), wL_1, wA_n (by omega)], by rw [wA_2, wL_n (by omega), wA_2], by rw [wA_2, wL_n (by omega), wA_2]⟩
theorem Fr_500 {M : Mm} {f : Nat → Int32} : Fr M (wA M 500 f) := ⟨fun x hx => by rw [wA_n (by omega)], rfl, rfl⟩
theorem RelM_500 {M : Mm} {a : Ab} {W : Nat} {f : Nat → Int32} (h : RelM M a W) : RelM (wA M 500 f) a W := RelM_ag h (fun x h1 h2 => wA_n (by omega)) (fun b _ => by rw [wA_n (by omega)]) rfl rfl h.2.2.2.2
theorem lay_500 {M M2 : Mm} {a : Ab} {go : Nat → Bool} {n : Nat} {t : Int32} (h : LayP M M2 a go n t) : M2.1 500 = M.1 500 := by
  obtain ⟨g, L, f, rfl, -⟩ := h
  rw [wA_n (by omega), wL_1, wA_n (by omega)]
set_option maxRecDepth 100000 in
set_option maxHeartbeats 1000000 in
theorem c_X9_differenceNow {l : Launch} {E : Ee} {M : Mm} {a : Ab} {W : Nat} (hM : RelM M a W) {m : Nat} (hm : m < 6) (hset : (a_mk a m).1 = true) : CtI l E yX9_differenceNow (.code yX9_differenceNow cX9_differenceNow 2 (some .int) :: gl) ({ frames := 5, cells := 0, slots := 0, locals := 115 } : Room) M [.ref (E.2.2 478), .int (nI m)] 0 0 (fun r M2 => r = nI (dfC (clA a) (mcA a m)) ∧ RelM M2 a W ∧ Fr M M2) := by
  refine ctI_of (L0 := [some (.ref (E.2.2 478)), some (.int (nI m))]) (by decide) rfl (Nat.le_of_ble_eq_true rfl) rfl ?_
  intro Z hl hE hnl F ret
  subst hE
  obtain ⟨⟨h60, ht, htk, hn, hop, hac, hun, hopk, ⟨u0, hu1, hu2, hu3⟩, C, hC, hCa⟩, ⟨hlk, hll, hlz⟩, hK, ⟨hln, hl40, htx⟩, L0, hL0⟩ := id hM
  have kM := kd_M
  have k479 := kd_479
  have k480 := kd_480
  have k481 := kd_481
  have k482 := kd_482
  have k483 := kd_483
  have k484 := kd_484
  have k485 := kd_485
  have k486 := kd_486
  have k487 := kd_487
  have k488 := kd_488
  have k489 := kd_489
  have k490 := kd_490
  have k491 := kd_491
  have k492 := kd_492
  have k493 := kd_493
  have k494 := kd_494
  have k495 := kd_495
  have k496 := kd_496
  have k497 := kd_497
  have k498 := kd_498
  have k499 := kd_499
  have k500 := kd_500
  have k501 := kd_501
  have k502 := kd_502
  have k503 := kd_503
  refine jj_aload_n F dX9_differenceNow_0 rfl ?_
  refine jj_callVv (na := 0) F (c_X9_layNow hM) (gl_V mk_X9_201 vw_X9_layNow) rfl rfl rfl (by decide +kernel) ⟨Nat.le_of_ble_eq_true rfl, Nat.le_of_ble_eq_true rfl⟩ (by assumption) rfl rfl rfl (Nat.le_of_ble_eq_true rfl) ⟨Nat.le_of_ble_eq_true rfl, Nat.le_of_ble_eq_true rfl⟩ dX9_differenceNow_1 (fun M1 hp1 => ?_)
  have hT1 := topsOk_lay h60 hp1
  refine jj_aload_n F dX9_differenceNow_4 rfl ?_
  refine jj_callVv (na := 0) F (c_X9_keepPicture (by assumption)) (gl_V mk_X9_204 vw_X9_keepPicture) rfl rfl rfl (by decide +kernel) ⟨Nat.le_of_ble_eq_true rfl, Nat.le_of_ble_eq_true rfl⟩ (by assumption) rfl rfl rfl (Nat.le_of_ble_eq_true rfl) ⟨Nat.le_of_ble_eq_true rfl, Nat.le_of_ble_eq_true rfl⟩ dX9_differenceNow_5 (fun M5 hp5 => ?_)
  obtain rfl := hp5.symm
  refine jj_aload_n F dX9_differenceNow_8 rfl ?_
  refine jj_iload_n F dX9_differenceNow_9 rfl ?_
  refine jj_callVv (na := 1) F (c_X9_layMark (RelM_500 (RelM_lay hM hp1)) hm hset) (gl_V mk_X9_250 vw_X9_layMark) rfl rfl rfl (by decide +kernel) ⟨Nat.le_of_ble_eq_true rfl, Nat.le_of_ble_eq_true rfl⟩ (by assumption) rfl rfl rfl (Nat.le_of_ble_eq_true rfl) ⟨Nat.le_of_ble_eq_true rfl, Nat.le_of_ble_eq_true rfl⟩ dX9_differenceNow_10 (fun M10 hp10 => ?_)
  have hT10 := topsOk_lay (by have := ((hK m hm).2 hset).2.1; omega) hp10
  refine jj_aload_n F dX9_differenceNow_13 rfl ?_
  refine jj_callVi (na := 0) F (c_X9_others (by assumption)) (gl_V mk_X9_207 vw_X9_others) rfl rfl rfl (by decide +kernel) ⟨Nat.le_of_ble_eq_true rfl, Nat.le_of_ble_eq_true rfl⟩ (by assumption) rfl rfl rfl (Nat.le_of_ble_eq_true rfl) ⟨Nat.le_of_ble_eq_true rfl, Nat.le_of_ble_eq_true rfl⟩ dX9_differenceNow_14 (fun r14 M14 hp14 => ?_)
  obtain ⟨rfl, rfl⟩ := symm2 hp14
  refine ret _ _ _ _ dX9_differenceNow_17 (by first | rfl | exact nar_z (by first | exact Or.inl rfl | exact Or.inr rfl | exact b2i_01 _ | assumption)) ?_
  have hm2 := RelM_lay (RelM_500 (RelM_lay hM hp1) (f := shF M1)) hp10
  obtain ⟨hk1, hk2, hk3, hk4⟩ := (hK m hm).2 hset
  refine ⟨?_, hm2, Fr_tr (Fr_lay hp1) (Fr_tr Fr_500 (Fr_lay hp10))⟩
  congr 1
  refine fb_ct_cong (fun c hc => ?_)
  rw [lay_500 hp10, wA_1s, shF_lay hM (Nat.le_refl _) hp1 hc, shF_lay (RelM_500 (RelM_lay hM hp1)) hk2 hp10 hc]
set_option maxRecDepth 100000 in
set_option maxHeartbeats 1000000 in
theorem c_X9_actives {l : Launch} {E : Ee} {M : Mm} {n : Nat} (hn : M.1 478 2 = nI n) (h60 : n ≤ 60) : CtI l E yX9_actives (.code yX9_actives cX9_actives 3 (some .int) :: gl) ({ frames := 0, cells := 0, slots := 0, locals := 0 } : Room) M [.ref (E.2.2 478)] 0 0 (fun r M2 => r = nI (fb_ct (fun j => !decide (M.1 485 j = 0)) n) ∧ M2 = M) := by
  refine ctI_of (L0 := [some (.ref (E.2.2 478)), none, none]) (by decide) rfl (Nat.le_of_ble_eq_true rfl) rfl ?_
  intro Z hl hE hnl F ret
  subst hE
  have in_X9 : ∀ w ∈ u_ws RX9 TX9 33, w ∈ (.code yX9_actives cX9_actives 3 (some .int) :: gl) := fun w h => List.mem_cons_of_mem _ (lay_X9 w h)
  have g28 : FG Z 28 9 9 := fg_mk F (C := RX9) (T := TX9) (N := 33) in_X9 rfl (by decide) rfl (List.mem_cons_of_mem _ fk_X9_28)
  have g95 : FG Z 95 9 2 := fg_mk F (C := RX9) (T := TX9) (N := 33) in_X9 rfl (by decide) rfl (List.mem_cons_of_mem _ fk_X9_95)
  have kM := kd_M
  have k479 := kd_479
  have k480 := kd_480
  have k481 := kd_481
  have k482 := kd_482
  have k483 := kd_483
  have k484 := kd_484
  have k485 := kd_485
  have k486 := kd_486
  have k487 := kd_487
  have k488 := kd_488
  have k489 := kd_489
  have k490 := kd_490
  have k491 := kd_491
  have k492 := kd_492
  have k493 := kd_493
  have k494 := kd_494
  have k495 := kd_495
  have k496 := kd_496
  have k497 := kd_497
  have k498 := kd_498
  have k499 := kd_499
  have k500 := kd_500
  have k501 := kd_501
  have k502 := kd_502
  have k503 := kd_503
  have lo : ∀ i, i ≤ n → JJ Z (0, 0) (M) 4 [some (.ref ((zE Z).2.2 478)), some (.int (nI (fb_ct (fun j => !decide (M.1 485 j = 0)) i))), some (.int (nI i))] [] := by
    refine jj_loop (n) ?_ ?_
    · refine jj_iload_n F dX9_actives_4 rfl ?_
      refine jj_aload_n F dX9_actives_5 rfl ?_
      refine jj_geti F g95 (by assumption) (by rfl) dX9_actives_6 ?_
      rw [hn]
      refine jj_icmp_ge F (tgt := 35) dX9_actives_9 (by decide) (fun _ => ?_) (fun h9 => absurd (nI_le (by omega) (by omega)) h9)
      refine jj_iload_n F dX9_actives_35 rfl ?_
      exact ret _ _ _ _ dX9_actives_36 rfl ⟨rfl, rfl⟩
    · intro i hi ih
      refine jj_iload_n F dX9_actives_4 rfl ?_
      refine jj_aload_n F dX9_actives_5 rfl ?_
      refine jj_geti F g95 (by assumption) (by rfl) dX9_actives_6 ?_
      rw [hn]
      refine jj_icmp_ge F (tgt := 35) dX9_actives_9 (by decide) (fun h9 => absurd h9 (nI_ge (by omega) (by omega))) (fun _ => ?_)
      refine jj_iload_n F dX9_actives_12 rfl ?_
      refine jj_aload_n F dX9_actives_13 rfl ?_
      refine jj_getr F g28 (by assumption) (by rfl) dX9_actives_14 ?_
      refine jj_iload_n F dX9_actives_17 rfl ?_
      refine jj_zald F (by assumption) rfl (by omega) dX9_actives_18 ?_
      refine jj_if_eq F (tgt := 26) dX9_actives_19 (by decide) (fun h19 => ?_) (fun h19 => ?_)
      · refine jj_iconst F (v := nI 0) dX9_actives_26 (by decide) ?_
        refine jj_iadd F dX9_actives_27 ?_
        refine jj_istore_n F dX9_actives_28 (by rw [hnl]; decide) ?_
        dsimp only [lq_st, lq_clr, lq_no]
        refine jj_iinc F dX9_actives_29 rfl (by first | exact iinc1 _ | rfl) (by rw [hnl]; decide) ?_
        dsimp only [lq_st, lq_clr, lq_no]
        refine jj_goto F (tgt := 4) dX9_actives_32 (by decide) ?_
        refine jj_eqL ?_ ih
        rw [fb_ct_succ]
        first
        | (simp only [h19, Bool.not_true, Bool.not_false, Bool.true_and, Bool.and_true, Bool.false_and, Bool.and_false, decide_true, decide_false, Bool.false_eq_true, if_false, if_true, nI_add, Nat.add_zero]; done)
      · refine jj_iconst F (v := nI 1) dX9_actives_22 (by decide) ?_
        refine jj_goto F (tgt := 27) dX9_actives_23 (by decide) ?_
        refine jj_iadd F dX9_actives_27 ?_
        refine jj_istore_n F dX9_actives_28 (by rw [hnl]; decide) ?_
        dsimp only [lq_st, lq_clr, lq_no]
        refine jj_iinc F dX9_actives_29 rfl (by first | exact iinc1 _ | rfl) (by rw [hnl]; decide) ?_
        dsimp only [lq_st, lq_clr, lq_no]
        refine jj_goto F (tgt := 4) dX9_actives_32 (by decide) ?_
        refine jj_eqL ?_ ih
        rw [fb_ct_succ]
        first
        | (simp only [h19, Bool.not_true, Bool.not_false, Bool.true_and, Bool.and_true, Bool.false_and, Bool.and_false, decide_true, decide_false, Bool.false_eq_true, if_false, if_true, nI_add, Nat.add_zero]; done)
  refine jj_iconst F (v := nI 0) dX9_actives_0 (by decide) ?_
  refine jj_istore_n F dX9_actives_1 (by rw [hnl]; decide) ?_
  dsimp only [lq_st, lq_clr, lq_no]
  refine jj_iconst F (v := nI 0) dX9_actives_2 (by decide) ?_
  refine jj_istore_n F dX9_actives_3 (by rw [hnl]; decide) ?_
  dsimp only [lq_st, lq_clr, lq_no]
  exact lo 0 (by omega)
set_option maxRecDepth 100000 in
set_option maxHeartbeats 1000000 in
theorem c_X9_colored {l : Launch} {E : Ee} {M : Mm}  : CtI l E yX9_colored (.code yX9_colored cX9_colored 3 (some .int) :: gl) ({ frames := 0, cells := 0, slots := 0, locals := 0 } : Room) M [.ref (E.2.2 478)] 0 0 (fun r M2 => r = nI (fb_ct (fun c => !decide (M.1 499 c = -1)) 256) ∧ M2 = M) := by
  refine ctI_of (L0 := [some (.ref (E.2.2 478)), none, none]) (by decide) rfl (Nat.le_of_ble_eq_true rfl) rfl ?_
  intro Z hl hE hnl F ret
  subst hE
  have in_X9 : ∀ w ∈ u_ws RX9 TX9 33, w ∈ (.code yX9_colored cX9_colored 3 (some .int) :: gl) := fun w h => List.mem_cons_of_mem _ (lay_X9 w h)
  have g72 : FG Z 72 9 26 := fg_mk F (C := RX9) (T := TX9) (N := 33) in_X9 rfl (by decide) rfl (List.mem_cons_of_mem _ fk_X9_72)
  have kM := kd_M
  have k479 := kd_479
  have k480 := kd_480
  have k481 := kd_481
  have k482 := kd_482
  have k483 := kd_483
  have k484 := kd_484
  have k485 := kd_485
  have k486 := kd_486
  have k487 := kd_487
  have k488 := kd_488
  have k489 := kd_489
  have k490 := kd_490
  have k491 := kd_491
  have k492 := kd_492
  have k493 := kd_493
  have k494 := kd_494
  have k495 := kd_495
  have k496 := kd_496
  have k497 := kd_497
  have k498 := kd_498
  have k499 := kd_499
  have k500 := kd_500
  have k501 := kd_501
  have k502 := kd_502
  have k503 := kd_503
  have lo : ∀ i, i ≤ 256 → JJ Z (0, 0) (M) 4 [some (.ref ((zE Z).2.2 478)), some (.int (nI (fb_ct (fun c => !decide (M.1 499 c = -1)) i))), some (.int (nI i))] [] := by
    refine jj_loop (256) ?_ ?_
    · refine jj_iload_n F dX9_colored_4 rfl ?_
      refine jj_sipush F (v := nI 256) dX9_colored_5 (by decide) ?_
      refine jj_icmp_ge F (tgt := 35) dX9_colored_8 (by decide) (fun _ => ?_) (fun h9 => absurd (nI_le (by omega) (by omega)) h9)
      refine jj_iload_n F dX9_colored_35 rfl ?_
      exact ret _ _ _ _ dX9_colored_36 rfl ⟨rfl, rfl⟩
    · intro i hi ih
      refine jj_iload_n F dX9_colored_4 rfl ?_
      refine jj_sipush F (v := nI 256) dX9_colored_5 (by decide) ?_
      refine jj_icmp_ge F (tgt := 35) dX9_colored_8 (by decide) (fun h9 => absurd h9 (nI_ge (by omega) (by omega))) (fun _ => ?_)
      refine jj_iload_n F dX9_colored_11 rfl ?_
      refine jj_aload_n F dX9_colored_12 rfl ?_
      refine jj_getr F g72 (by assumption) (by rfl) dX9_colored_13 ?_
      refine jj_iload_n F dX9_colored_16 rfl ?_
      refine jj_iald F (by assumption) rfl (by omega) dX9_colored_17 ?_
      refine jj_iconst F (v := -1) dX9_colored_18 (by decide) ?_
      refine jj_icmp_ne F (tgt := 26) dX9_colored_19 (by decide) (fun h19 => ?_) (fun h19 => ?_)
      · refine jj_iconst F (v := nI 1) dX9_colored_26 (by decide) ?_
        refine jj_iadd F dX9_colored_27 ?_
        refine jj_istore_n F dX9_colored_28 (by rw [hnl]; decide) ?_
        dsimp only [lq_st, lq_clr, lq_no]
        refine jj_iinc F dX9_colored_29 rfl (by first | exact iinc1 _ | rfl) (by rw [hnl]; decide) ?_
        dsimp only [lq_st, lq_clr, lq_no]
        refine jj_goto F (tgt := 4) dX9_colored_32 (by decide) ?_
        refine jj_eqL ?_ ih
        rw [fb_ct_succ]
        first
        | (simp only [h19, Bool.not_true, Bool.not_false, Bool.true_and, Bool.and_true, Bool.false_and, Bool.and_false, decide_true, decide_false, Bool.false_eq_true, if_false, if_true, nI_add, Nat.add_zero]; done)
      · refine jj_iconst F (v := nI 0) dX9_colored_22 (by decide) ?_
        refine jj_goto F (tgt := 27) dX9_colored_23 (by decide) ?_
        refine jj_iadd F dX9_colored_27 ?_
        refine jj_istore_n F dX9_colored_28 (by rw [hnl]; decide) ?_
        dsimp only [lq_st, lq_clr, lq_no]
        refine jj_iinc F dX9_colored_29 rfl (by first | exact iinc1 _ | rfl) (by rw [hnl]; decide) ?_
        dsimp only [lq_st, lq_clr, lq_no]
        refine jj_goto F (tgt := 4) dX9_colored_32 (by decide) ?_
        refine jj_eqL ?_ ih
        rw [fb_ct_succ]
        first
        | (simp only [h19, Bool.not_true, Bool.not_false, Bool.true_and, Bool.and_true, Bool.false_and, Bool.and_false, decide_true, decide_false, Bool.false_eq_true, if_false, if_true, nI_add, Nat.add_zero]; done)
  refine jj_iconst F (v := nI 0) dX9_colored_0 (by decide) ?_
  refine jj_istore_n F dX9_colored_1 (by rw [hnl]; decide) ?_
  dsimp only [lq_st, lq_clr, lq_no]
  refine jj_iconst F (v := nI 0) dX9_colored_2 (by decide) ?_
  refine jj_istore_n F dX9_colored_3 (by rw [hnl]; decide) ?_
  dsimp only [lq_st, lq_clr, lq_no]
  exact lo 0 (by omega)
set_option maxRecDepth 100000 in
set_option maxHeartbeats 1000000 in
theorem c_X9_marks {l : Launch} {E : Ee} {M : Mm}  : CtI l E yX9_marks (.code yX9_marks cX9_marks 3 (some .int) :: gl) ({ frames := 0, cells := 0, slots := 0, locals := 0 } : Room) M [.ref (E.2.2 478)] 0 0 (fun r M2 => r = nI (fb_ct (fun m => !decide (M.1 495 m = 0)) 6) ∧ M2 = M) := by
  refine ctI_of (L0 := [some (.ref (E.2.2 478)), none, none]) (by decide) rfl (Nat.le_of_ble_eq_true rfl) rfl ?_
  intro Z hl hE hnl F ret
  subst hE
  have in_X9 : ∀ w ∈ u_ws RX9 TX9 33, w ∈ (.code yX9_marks cX9_marks 3 (some .int) :: gl) := fun w h => List.mem_cons_of_mem _ (lay_X9 w h)
  have g60 : FG Z 60 9 21 := fg_mk F (C := RX9) (T := TX9) (N := 33) in_X9 rfl (by decide) rfl (List.mem_cons_of_mem _ fk_X9_60)
  have kM := kd_M
  have k479 := kd_479
  have k480 := kd_480
  have k481 := kd_481
  have k482 := kd_482
  have k483 := kd_483
  have k484 := kd_484
  have k485 := kd_485
  have k486 := kd_486
  have k487 := kd_487
  have k488 := kd_488
  have k489 := kd_489
  have k490 := kd_490
  have k491 := kd_491
  have k492 := kd_492
  have k493 := kd_493
  have k494 := kd_494
  have k495 := kd_495
  have k496 := kd_496
  have k497 := kd_497
  have k498 := kd_498
  have k499 := kd_499
  have k500 := kd_500
  have k501 := kd_501
  have k502 := kd_502
  have k503 := kd_503
  have lo : ∀ i, i ≤ 6 → JJ Z (0, 0) (M) 4 [some (.ref ((zE Z).2.2 478)), some (.int (nI (fb_ct (fun m => !decide (M.1 495 m = 0)) i))), some (.int (nI i))] [] := by
    refine jj_loop (6) ?_ ?_
    · refine jj_iload_n F dX9_marks_4 rfl ?_
      refine jj_bipush F (v := nI 6) dX9_marks_5 (by decide) ?_
      refine jj_icmp_ge F (tgt := 33) dX9_marks_7 (by decide) (fun _ => ?_) (fun h9 => absurd (nI_le (by omega) (by omega)) h9)
      refine jj_iload_n F dX9_marks_33 rfl ?_
      exact ret _ _ _ _ dX9_marks_34 rfl ⟨rfl, rfl⟩
    · intro i hi ih
      refine jj_iload_n F dX9_marks_4 rfl ?_
      refine jj_bipush F (v := nI 6) dX9_marks_5 (by decide) ?_
      refine jj_icmp_ge F (tgt := 33) dX9_marks_7 (by decide) (fun h9 => absurd h9 (nI_ge (by omega) (by omega))) (fun _ => ?_)
      refine jj_iload_n F dX9_marks_10 rfl ?_
      refine jj_aload_n F dX9_marks_11 rfl ?_
      refine jj_getr F g60 (by assumption) (by rfl) dX9_marks_12 ?_
      refine jj_iload_n F dX9_marks_15 rfl ?_
      refine jj_zald F (by assumption) rfl (by omega) dX9_marks_16 ?_
      refine jj_if_eq F (tgt := 24) dX9_marks_17 (by decide) (fun h17 => ?_) (fun h17 => ?_)
      · refine jj_iconst F (v := nI 0) dX9_marks_24 (by decide) ?_
        refine jj_iadd F dX9_marks_25 ?_
        refine jj_istore_n F dX9_marks_26 (by rw [hnl]; decide) ?_
        dsimp only [lq_st, lq_clr, lq_no]
        refine jj_iinc F dX9_marks_27 rfl (by first | exact iinc1 _ | rfl) (by rw [hnl]; decide) ?_
        dsimp only [lq_st, lq_clr, lq_no]
        refine jj_goto F (tgt := 4) dX9_marks_30 (by decide) ?_
        refine jj_eqL ?_ ih
        rw [fb_ct_succ]
        first
        | (simp only [h17, Bool.not_true, Bool.not_false, Bool.true_and, Bool.and_true, Bool.false_and, Bool.and_false, decide_true, decide_false, Bool.false_eq_true, if_false, if_true, nI_add, Nat.add_zero]; done)
      · refine jj_iconst F (v := nI 1) dX9_marks_20 (by decide) ?_
        refine jj_goto F (tgt := 25) dX9_marks_21 (by decide) ?_
        refine jj_iadd F dX9_marks_25 ?_
        refine jj_istore_n F dX9_marks_26 (by rw [hnl]; decide) ?_
        dsimp only [lq_st, lq_clr, lq_no]
        refine jj_iinc F dX9_marks_27 rfl (by first | exact iinc1 _ | rfl) (by rw [hnl]; decide) ?_
        dsimp only [lq_st, lq_clr, lq_no]
        refine jj_goto F (tgt := 4) dX9_marks_30 (by decide) ?_
        refine jj_eqL ?_ ih
        rw [fb_ct_succ]
        first
        | (simp only [h17, Bool.not_true, Bool.not_false, Bool.true_and, Bool.and_true, Bool.false_and, Bool.and_false, decide_true, decide_false, Bool.false_eq_true, if_false, if_true, nI_add, Nat.add_zero]; done)
  refine jj_iconst F (v := nI 0) dX9_marks_0 (by decide) ?_
  refine jj_istore_n F dX9_marks_1 (by rw [hnl]; decide) ?_
  dsimp only [lq_st, lq_clr, lq_no]
  refine jj_iconst F (v := nI 0) dX9_marks_2 (by decide) ?_
  refine jj_istore_n F dX9_marks_3 (by rw [hnl]; decide) ?_
  dsimp only [lq_st, lq_clr, lq_no]
  exact lo 0 (by omega)
set_option maxRecDepth 100000 in
set_option maxHeartbeats 1000000 in
theorem c_X9_onTop {l : Launch} {E : Ee} {M : Mm} {x : Int32} : CtI l E yX9_onTop (.code yX9_onTop cX9_onTop 4 (some .int) :: gl) ({ frames := 0, cells := 0, slots := 0, locals := 0 } : Room) M [.ref (E.2.2 478), .int x] 0 0 (fun r M2 => r = nI (fb_ct (fun c => decide (M.1 499 c = x)) 256) ∧ M2 = M) := by
  refine ctI_of (L0 := [some (.ref (E.2.2 478)), some (.int x), none, none]) (by decide) rfl (Nat.le_of_ble_eq_true rfl) rfl ?_
  intro Z hl hE hnl F ret
  subst hE
  have in_X9 : ∀ w ∈ u_ws RX9 TX9 33, w ∈ (.code yX9_onTop cX9_onTop 4 (some .int) :: gl) := fun w h => List.mem_cons_of_mem _ (lay_X9 w h)
  have g72 : FG Z 72 9 26 := fg_mk F (C := RX9) (T := TX9) (N := 33) in_X9 rfl (by decide) rfl (List.mem_cons_of_mem _ fk_X9_72)
  have kM := kd_M
  have k479 := kd_479
  have k480 := kd_480
  have k481 := kd_481
  have k482 := kd_482
  have k483 := kd_483
  have k484 := kd_484
  have k485 := kd_485
  have k486 := kd_486
  have k487 := kd_487
  have k488 := kd_488
  have k489 := kd_489
  have k490 := kd_490
  have k491 := kd_491
  have k492 := kd_492
  have k493 := kd_493
  have k494 := kd_494
  have k495 := kd_495
  have k496 := kd_496
  have k497 := kd_497
  have k498 := kd_498
  have k499 := kd_499
  have k500 := kd_500
  have k501 := kd_501
  have k502 := kd_502
  have k503 := kd_503
  have lo : ∀ i, i ≤ 256 → JJ Z (0, 0) (M) 4 [some (.ref ((zE Z).2.2 478)), some (.int x), some (.int (nI (fb_ct (fun c => decide (M.1 499 c = x)) i))), some (.int (nI i))] [] := by
    refine jj_loop (256) ?_ ?_
    · refine jj_iload_n F dX9_onTop_4 rfl ?_
      refine jj_sipush F (v := nI 256) dX9_onTop_5 (by decide) ?_
      refine jj_icmp_ge F (tgt := 35) dX9_onTop_8 (by decide) (fun _ => ?_) (fun h9 => absurd (nI_le (by omega) (by omega)) h9)
      refine jj_iload_n F dX9_onTop_35 rfl ?_
      exact ret _ _ _ _ dX9_onTop_36 rfl ⟨rfl, rfl⟩
    · intro i hi ih
      refine jj_iload_n F dX9_onTop_4 rfl ?_
      refine jj_sipush F (v := nI 256) dX9_onTop_5 (by decide) ?_
      refine jj_icmp_ge F (tgt := 35) dX9_onTop_8 (by decide) (fun h9 => absurd h9 (nI_ge (by omega) (by omega))) (fun _ => ?_)
      refine jj_iload_n F dX9_onTop_11 rfl ?_
      refine jj_aload_n F dX9_onTop_12 rfl ?_
      refine jj_getr F g72 (by assumption) (by rfl) dX9_onTop_13 ?_
      refine jj_iload_n F dX9_onTop_16 rfl ?_
      refine jj_iald F (by assumption) rfl (by omega) dX9_onTop_17 ?_
      refine jj_iload_n F dX9_onTop_18 rfl ?_
      refine jj_icmp_ne F (tgt := 26) dX9_onTop_19 (by decide) (fun h19 => ?_) (fun h19 => ?_)
      · refine jj_iconst F (v := nI 0) dX9_onTop_26 (by decide) ?_
        refine jj_iadd F dX9_onTop_27 ?_
        refine jj_istore_n F dX9_onTop_28 (by rw [hnl]; decide) ?_
        dsimp only [lq_st, lq_clr, lq_no]
        refine jj_iinc F dX9_onTop_29 rfl (by first | exact iinc1 _ | rfl) (by rw [hnl]; decide) ?_
        dsimp only [lq_st, lq_clr, lq_no]
        refine jj_goto F (tgt := 4) dX9_onTop_32 (by decide) ?_
        refine jj_eqL ?_ ih
        rw [fb_ct_succ]
        first
        | (simp only [h19, Bool.not_true, Bool.not_false, Bool.true_and, Bool.and_true, Bool.false_and, Bool.and_false, decide_true, decide_false, Bool.false_eq_true, if_false, if_true, nI_add, Nat.add_zero]; done)
      · refine jj_iconst F (v := nI 1) dX9_onTop_22 (by decide) ?_
        refine jj_goto F (tgt := 27) dX9_onTop_23 (by decide) ?_
        refine jj_iadd F dX9_onTop_27 ?_
        refine jj_istore_n F dX9_onTop_28 (by rw [hnl]; decide) ?_
        dsimp only [lq_st, lq_clr, lq_no]
        refine jj_iinc F dX9_onTop_29 rfl (by first | exact iinc1 _ | rfl) (by rw [hnl]; decide) ?_
        dsimp only [lq_st, lq_clr, lq_no]
        refine jj_goto F (tgt := 4) dX9_onTop_32 (by decide) ?_
        refine jj_eqL ?_ ih
        rw [fb_ct_succ]
        first
        | (simp only [h19, Bool.not_true, Bool.not_false, Bool.true_and, Bool.and_true, Bool.false_and, Bool.and_false, decide_true, decide_false, Bool.false_eq_true, if_false, if_true, nI_add, Nat.add_zero]; done)
  refine jj_iconst F (v := nI 0) dX9_onTop_0 (by decide) ?_
  refine jj_istore_n F dX9_onTop_1 (by rw [hnl]; decide) ?_
  dsimp only [lq_st, lq_clr, lq_no]
  refine jj_iconst F (v := nI 0) dX9_onTop_2 (by decide) ?_
  refine jj_istore_n F dX9_onTop_3 (by rw [hnl]; decide) ?_
  dsimp only [lq_st, lq_clr, lq_no]
  exact lo 0 (by omega)
set_option maxRecDepth 100000 in
set_option maxHeartbeats 1000000 in
theorem c_X9_leasesOf {l : Launch} {E : Ee} {M : Mm} {x : Int32} {q : Nat} (hq : M.1 478 13 = nI q) (h6 : q ≤ 6) : CtI l E yX9_leasesOf (.code yX9_leasesOf cX9_leasesOf 4 (some .int) :: gl) ({ frames := 0, cells := 0, slots := 0, locals := 0 } : Room) M [.ref (E.2.2 478), .int x] 0 0 (fun r M2 => r = nI (fb_ct (fun j => decide (M.1 488 j = x)) q) ∧ M2 = M) := by
  refine ctI_of (L0 := [some (.ref (E.2.2 478)), some (.int x), none, none]) (by decide) rfl (Nat.le_of_ble_eq_true rfl) rfl ?_
  intro Z hl hE hnl F ret
  subst hE
  have in_X9 : ∀ w ∈ u_ws RX9 TX9 33, w ∈ (.code yX9_leasesOf cX9_leasesOf 4 (some .int) :: gl) := fun w h => List.mem_cons_of_mem _ (lay_X9 w h)
  have g39 : FG Z 39 9 14 := fg_mk F (C := RX9) (T := TX9) (N := 33) in_X9 rfl (by decide) rfl (List.mem_cons_of_mem _ fk_X9_39)
  have g136 : FG Z 136 9 13 := fg_mk F (C := RX9) (T := TX9) (N := 33) in_X9 rfl (by decide) rfl (List.mem_cons_of_mem _ fk_X9_136)
  have kM := kd_M
  have k479 := kd_479
  have k480 := kd_480
  have k481 := kd_481
  have k482 := kd_482
  have k483 := kd_483
  have k484 := kd_484
  have k485 := kd_485
  have k486 := kd_486
  have k487 := kd_487
  have k488 := kd_488
  have k489 := kd_489
  have k490 := kd_490
  have k491 := kd_491
  have k492 := kd_492
  have k493 := kd_493
  have k494 := kd_494
  have k495 := kd_495
  have k496 := kd_496
  have k497 := kd_497
  have k498 := kd_498
  have k499 := kd_499
  have k500 := kd_500
  have k501 := kd_501
  have k502 := kd_502
  have k503 := kd_503
  have lo : ∀ i, i ≤ q → JJ Z (0, 0) (M) 4 [some (.ref ((zE Z).2.2 478)), some (.int x), some (.int (nI (fb_ct (fun j => decide (M.1 488 j = x)) i))), some (.int (nI i))] [] := by
    refine jj_loop (q) ?_ ?_
    · refine jj_iload_n F dX9_leasesOf_4 rfl ?_
      refine jj_aload_n F dX9_leasesOf_5 rfl ?_
      refine jj_geti F g136 (by assumption) (by rfl) dX9_leasesOf_6 ?_
      rw [hq]
      refine jj_icmp_ge F (tgt := 36) dX9_leasesOf_9 (by decide) (fun _ => ?_) (fun h9 => absurd (nI_le (by omega) (by omega)) h9)
      refine jj_iload_n F dX9_leasesOf_36 rfl ?_
      exact ret _ _ _ _ dX9_leasesOf_37 rfl ⟨rfl, rfl⟩
    · intro i hi ih
      refine jj_iload_n F dX9_leasesOf_4 rfl ?_
      refine jj_aload_n F dX9_leasesOf_5 rfl ?_
      refine jj_geti F g136 (by assumption) (by rfl) dX9_leasesOf_6 ?_
      rw [hq]
      refine jj_icmp_ge F (tgt := 36) dX9_leasesOf_9 (by decide) (fun h9 => absurd h9 (nI_ge (by omega) (by omega))) (fun _ => ?_)
      refine jj_iload_n F dX9_leasesOf_12 rfl ?_
      refine jj_aload_n F dX9_leasesOf_13 rfl ?_
      refine jj_getr F g39 (by assumption) (by rfl) dX9_leasesOf_14 ?_
      refine jj_iload_n F dX9_leasesOf_17 rfl ?_
      refine jj_iald F (by assumption) rfl (by omega) dX9_leasesOf_18 ?_
      refine jj_iload_n F dX9_leasesOf_19 rfl ?_
      refine jj_icmp_ne F (tgt := 27) dX9_leasesOf_20 (by decide) (fun h20 => ?_) (fun h20 => ?_)
      · refine jj_iconst F (v := nI 0) dX9_leasesOf_27 (by decide) ?_
        refine jj_iadd F dX9_leasesOf_28 ?_
        refine jj_istore_n F dX9_leasesOf_29 (by rw [hnl]; decide) ?_
        dsimp only [lq_st, lq_clr, lq_no]
        refine jj_iinc F dX9_leasesOf_30 rfl (by first | exact iinc1 _ | rfl) (by rw [hnl]; decide) ?_
        dsimp only [lq_st, lq_clr, lq_no]
        refine jj_goto F (tgt := 4) dX9_leasesOf_33 (by decide) ?_
        refine jj_eqL ?_ ih
        rw [fb_ct_succ]
        first
        | (simp only [h20, Bool.not_true, Bool.not_false, Bool.true_and, Bool.and_true, Bool.false_and, Bool.and_false, decide_true, decide_false, Bool.false_eq_true, if_false, if_true, nI_add, Nat.add_zero]; done)
      · refine jj_iconst F (v := nI 1) dX9_leasesOf_23 (by decide) ?_
        refine jj_goto F (tgt := 28) dX9_leasesOf_24 (by decide) ?_
        refine jj_iadd F dX9_leasesOf_28 ?_
        refine jj_istore_n F dX9_leasesOf_29 (by rw [hnl]; decide) ?_
        dsimp only [lq_st, lq_clr, lq_no]
        refine jj_iinc F dX9_leasesOf_30 rfl (by first | exact iinc1 _ | rfl) (by rw [hnl]; decide) ?_
        dsimp only [lq_st, lq_clr, lq_no]
        refine jj_goto F (tgt := 4) dX9_leasesOf_33 (by decide) ?_
        refine jj_eqL ?_ ih
        rw [fb_ct_succ]
        first
        | (simp only [h20, Bool.not_true, Bool.not_false, Bool.true_and, Bool.and_true, Bool.false_and, Bool.and_false, decide_true, decide_false, Bool.false_eq_true, if_false, if_true, nI_add, Nat.add_zero]; done)
  refine jj_iconst F (v := nI 0) dX9_leasesOf_0 (by decide) ?_
  refine jj_istore_n F dX9_leasesOf_1 (by rw [hnl]; decide) ?_
  dsimp only [lq_st, lq_clr, lq_no]
  refine jj_iconst F (v := nI 0) dX9_leasesOf_2 (by decide) ?_
  refine jj_istore_n F dX9_leasesOf_3 (by rw [hnl]; decide) ?_
  dsimp only [lq_st, lq_clr, lq_no]
  exact lo 0 (by omega)
theorem van_t {x : Bool} (h : ¬ b2i x = 0) : x = true := (b2i_n0 x).mp h
theorem van_f {x : Bool} (h : b2i x = 0) : x = false := (b2i_0 x).mp h
set_option maxRecDepth 100000 in
set_option maxHeartbeats 1000000 in
theorem c_X9_covered {l : Launch} {E : Ee} {M : Mm} {n : Nat} {t : Int32} {L : Nat → Nat → Bool} (hn : M.1 478 2 = nI n) (h60 : n ≤ 60) (ht : M.1 478 1 = t) (hL : M.2 497 = lws L) : CtI l E yX9_covered (.code yX9_covered cX9_covered 3 (some .int) :: gl) ({ frames := 2, cells := 0, slots := 0, locals := 44 } : Room) M [.ref (E.2.2 478)] 0 0 (fun r M2 => r = nI (fb_ct (fun j => !vanI (M.1 483 j) (M.1 484 j) t && !decide (nI (csz (L j)) ≤ 0) && decide (nI (fb_ct (fun c => decide (M.1 499 c = nI j)) 256) = 0)) n) ∧ M2 = M) := by
  refine ctI_of (L0 := [some (.ref (E.2.2 478)), none, none]) (by decide) rfl (Nat.le_of_ble_eq_true rfl) rfl ?_
  intro Z hl hE hnl F ret
  subst hE
  have in_X9 : ∀ w ∈ u_ws RX9 TX9 33, w ∈ (.code yX9_covered cX9_covered 3 (some .int) :: gl) := fun w h => List.mem_cons_of_mem _ (lay_X9 w h)
  have g66 : FG Z 66 9 24 := fg_mk F (C := RX9) (T := TX9) (N := 33) in_X9 rfl (by decide) rfl (List.mem_cons_of_mem _ fk_X9_66)
  have g95 : FG Z 95 9 2 := fg_mk F (C := RX9) (T := TX9) (N := 33) in_X9 rfl (by decide) rfl (List.mem_cons_of_mem _ fk_X9_95)
  have g126 : FG Z 126 9 1 := fg_mk F (C := RX9) (T := TX9) (N := 33) in_X9 rfl (by decide) rfl (List.mem_cons_of_mem _ fk_X9_126)
  have kM := kd_M
  have k479 := kd_479
  have k480 := kd_480
  have k481 := kd_481
  have k482 := kd_482
  have k483 := kd_483
  have k484 := kd_484
  have k485 := kd_485
  have k486 := kd_486
  have k487 := kd_487
  have k488 := kd_488
  have k489 := kd_489
  have k490 := kd_490
  have k491 := kd_491
  have k492 := kd_492
  have k493 := kd_493
  have k494 := kd_494
  have k495 := kd_495
  have k496 := kd_496
  have k497 := kd_497
  have k498 := kd_498
  have k499 := kd_499
  have k500 := kd_500
  have k501 := kd_501
  have k502 := kd_502
  have k503 := kd_503
  have lo : ∀ i, i ≤ n → JJ Z (0, 0) (M) 4 [some (.ref ((zE Z).2.2 478)), some (.int (nI (fb_ct (fun j => !vanI (M.1 483 j) (M.1 484 j) t && !decide (nI (csz (L j)) ≤ 0) && decide (nI (fb_ct (fun c => decide (M.1 499 c = nI j)) 256) = 0)) i))), some (.int (nI i))] [] := by
    refine jj_loop (n) ?_ ?_
    · refine jj_iload_n F dX9_covered_4 rfl ?_
      refine jj_aload_n F dX9_covered_5 rfl ?_
      refine jj_geti F g95 (by assumption) (by rfl) dX9_covered_6 ?_
      rw [hn]
      refine jj_icmp_ge F (tgt := 57) dX9_covered_9 (by decide) (fun _ => ?_) (fun h9 => absurd (nI_le (by omega) (by omega)) h9)
      refine jj_iload_n F dX9_covered_57 rfl ?_
      exact ret _ _ _ _ dX9_covered_58 rfl ⟨rfl, rfl⟩
    · intro i hi ih
      refine jj_iload_n F dX9_covered_4 rfl ?_
      refine jj_aload_n F dX9_covered_5 rfl ?_
      refine jj_geti F g95 (by assumption) (by rfl) dX9_covered_6 ?_
      rw [hn]
      refine jj_icmp_ge F (tgt := 57) dX9_covered_9 (by decide) (fun h9 => absurd h9 (nI_ge (by omega) (by omega))) (fun _ => ?_)
      refine jj_iload_n F dX9_covered_12 rfl ?_
      refine jj_aload_n F dX9_covered_13 rfl ?_
      refine jj_iload_n F dX9_covered_14 rfl ?_
      refine jj_aload_n F dX9_covered_15 rfl ?_
      refine jj_geti F g126 (by assumption) (by rfl) dX9_covered_16 ?_
      rw [ht]
      refine jj_callVi (na := 2) F (c_X9_isVanished (by omega)) (gl_V mk_X9_112 vw_X9_isVanished) rfl rfl rfl (by decide +kernel) ⟨Nat.le_of_ble_eq_true rfl, Nat.le_of_ble_eq_true rfl⟩ (by assumption) rfl rfl rfl (Nat.le_of_ble_eq_true rfl) ⟨Nat.le_of_ble_eq_true rfl, Nat.le_of_ble_eq_true rfl⟩ dX9_covered_19 (fun r19 M19 hp19 => ?_)
      obtain ⟨rfl, rfl⟩ := symm2 hp19
      refine jj_if_ne F (tgt := 48) dX9_covered_22 (by decide) (fun h22 => ?_) (fun h22 => ?_)
      · refine jj_iconst F (v := nI 0) dX9_covered_48 (by decide) ?_
        refine jj_iadd F dX9_covered_49 ?_
        refine jj_istore_n F dX9_covered_50 (by rw [hnl]; decide) ?_
        dsimp only [lq_st, lq_clr, lq_no]
        refine jj_iinc F dX9_covered_51 rfl (by first | exact iinc1 _ | rfl) (by rw [hnl]; decide) ?_
        dsimp only [lq_st, lq_clr, lq_no]
        refine jj_goto F (tgt := 4) dX9_covered_54 (by decide) ?_
        refine jj_eqL ?_ ih
        rw [fb_ct_succ]
        first
        | (simp only [van_t h22, Bool.not_true, Bool.not_false, Bool.true_and, Bool.and_true, Bool.false_and, Bool.and_false, decide_true, decide_false, Bool.false_eq_true, if_false, if_true, nI_add, Nat.add_zero]; done)
        | (simp only [van_f h22, h33, Bool.not_true, Bool.not_false, Bool.true_and, Bool.and_true, Bool.false_and, Bool.and_false, decide_true, decide_false, Bool.false_eq_true, if_false, if_true, nI_add, Nat.add_zero]; done)
        | (simp only [van_f h22, h33, h41, Bool.not_true, Bool.not_false, Bool.true_and, Bool.and_true, Bool.false_and, Bool.and_false, decide_true, decide_false, Bool.false_eq_true, if_false, if_true, nI_add, Nat.add_zero]; done)
      · refine jj_aload_n F dX9_covered_25 rfl ?_
        refine jj_getr F g66 (by assumption) (by rfl) dX9_covered_26 ?_
        refine jj_iload_n F dX9_covered_29 rfl ?_
        refine jj_callSi (na := 2) F (c_X9_sizeIn k497 hL (by omega)) (gl_S mk_X9_173 vw_X9_sizeIn) rfl rfl rfl (by decide +kernel) ⟨Nat.le_of_ble_eq_true rfl, Nat.le_of_ble_eq_true rfl⟩ rfl rfl (Nat.le_of_ble_eq_true rfl) ⟨Nat.le_of_ble_eq_true rfl, Nat.le_of_ble_eq_true rfl⟩ dX9_covered_30 (fun r30 M30 hp30 => ?_)
        obtain ⟨rfl, rfl⟩ := symm2 hp30
        refine jj_if_le F (tgt := 48) dX9_covered_33 (by decide) (fun h33 => ?_) (fun h33 => ?_)
        · refine jj_iconst F (v := nI 0) dX9_covered_48 (by decide) ?_
          refine jj_iadd F dX9_covered_49 ?_
          refine jj_istore_n F dX9_covered_50 (by rw [hnl]; decide) ?_
          dsimp only [lq_st, lq_clr, lq_no]
          refine jj_iinc F dX9_covered_51 rfl (by first | exact iinc1 _ | rfl) (by rw [hnl]; decide) ?_
          dsimp only [lq_st, lq_clr, lq_no]
          refine jj_goto F (tgt := 4) dX9_covered_54 (by decide) ?_
          refine jj_eqL ?_ ih
          rw [fb_ct_succ]
          first
          | (simp only [van_t h22, Bool.not_true, Bool.not_false, Bool.true_and, Bool.and_true, Bool.false_and, Bool.and_false, decide_true, decide_false, Bool.false_eq_true, if_false, if_true, nI_add, Nat.add_zero]; done)
          | (simp only [van_f h22, h33, Bool.not_true, Bool.not_false, Bool.true_and, Bool.and_true, Bool.false_and, Bool.and_false, decide_true, decide_false, Bool.false_eq_true, if_false, if_true, nI_add, Nat.add_zero]; done)
          | (simp only [van_f h22, h33, h41, Bool.not_true, Bool.not_false, Bool.true_and, Bool.and_true, Bool.false_and, Bool.and_false, decide_true, decide_false, Bool.false_eq_true, if_false, if_true, nI_add, Nat.add_zero]; done)
        · refine jj_aload_n F dX9_covered_36 rfl ?_
          refine jj_iload_n F dX9_covered_37 rfl ?_
          refine jj_callVi (na := 1) F c_X9_onTop (gl_V mk_X9_256 vw_X9_onTop) rfl rfl rfl (by decide +kernel) ⟨Nat.le_of_ble_eq_true rfl, Nat.le_of_ble_eq_true rfl⟩ (by assumption) rfl rfl rfl (Nat.le_of_ble_eq_true rfl) ⟨Nat.le_of_ble_eq_true rfl, Nat.le_of_ble_eq_true rfl⟩ dX9_covered_38 (fun r38 M38 hp38 => ?_)
          obtain ⟨rfl, rfl⟩ := symm2 hp38
          refine jj_if_ne F (tgt := 48) dX9_covered_41 (by decide) (fun h41 => ?_) (fun h41 => ?_)
          · refine jj_iconst F (v := nI 0) dX9_covered_48 (by decide) ?_
            refine jj_iadd F dX9_covered_49 ?_
            refine jj_istore_n F dX9_covered_50 (by rw [hnl]; decide) ?_
            dsimp only [lq_st, lq_clr, lq_no]
            refine jj_iinc F dX9_covered_51 rfl (by first | exact iinc1 _ | rfl) (by rw [hnl]; decide) ?_
            dsimp only [lq_st, lq_clr, lq_no]
            refine jj_goto F (tgt := 4) dX9_covered_54 (by decide) ?_
            refine jj_eqL ?_ ih
            rw [fb_ct_succ]
            first
            | (simp only [van_t h22, Bool.not_true, Bool.not_false, Bool.true_and, Bool.and_true, Bool.false_and, Bool.and_false, decide_true, decide_false, Bool.false_eq_true, if_false, if_true, nI_add, Nat.add_zero]; done)
            | (simp only [van_f h22, h33, Bool.not_true, Bool.not_false, Bool.true_and, Bool.and_true, Bool.false_and, Bool.and_false, decide_true, decide_false, Bool.false_eq_true, if_false, if_true, nI_add, Nat.add_zero]; done)
            | (simp only [van_f h22, h33, h41, Bool.not_true, Bool.not_false, Bool.true_and, Bool.and_true, Bool.false_and, Bool.and_false, decide_true, decide_false, Bool.false_eq_true, if_false, if_true, nI_add, Nat.add_zero]; done)
          · refine jj_iconst F (v := nI 1) dX9_covered_44 (by decide) ?_
            refine jj_goto F (tgt := 49) dX9_covered_45 (by decide) ?_
            refine jj_iadd F dX9_covered_49 ?_
            refine jj_istore_n F dX9_covered_50 (by rw [hnl]; decide) ?_
            dsimp only [lq_st, lq_clr, lq_no]
            refine jj_iinc F dX9_covered_51 rfl (by first | exact iinc1 _ | rfl) (by rw [hnl]; decide) ?_
            dsimp only [lq_st, lq_clr, lq_no]
            refine jj_goto F (tgt := 4) dX9_covered_54 (by decide) ?_
            refine jj_eqL ?_ ih
            rw [fb_ct_succ]
            first
            | (simp only [van_t h22, Bool.not_true, Bool.not_false, Bool.true_and, Bool.and_true, Bool.false_and, Bool.and_false, decide_true, decide_false, Bool.false_eq_true, if_false, if_true, nI_add, Nat.add_zero]; done)
            | (simp only [van_f h22, h33, Bool.not_true, Bool.not_false, Bool.true_and, Bool.and_true, Bool.false_and, Bool.and_false, decide_true, decide_false, Bool.false_eq_true, if_false, if_true, nI_add, Nat.add_zero]; done)
            | (simp only [van_f h22, h33, h41, Bool.not_true, Bool.not_false, Bool.true_and, Bool.and_true, Bool.false_and, Bool.and_false, decide_true, decide_false, Bool.false_eq_true, if_false, if_true, nI_add, Nat.add_zero]; done)
  refine jj_iconst F (v := nI 0) dX9_covered_0 (by decide) ?_
  refine jj_istore_n F dX9_covered_1 (by rw [hnl]; decide) ?_
  dsimp only [lq_st, lq_clr, lq_no]
  refine jj_iconst F (v := nI 0) dX9_covered_2 (by decide) ?_
  refine jj_istore_n F dX9_covered_3 (by rw [hnl]; decide) ?_
  dsimp only [lq_st, lq_clr, lq_no]
  exact lo 0 (by omega)
set_option maxRecDepth 100000 in
set_option maxHeartbeats 1000000 in
theorem c_X9_strength {l : Launch} {E : Ee} {M : Mm} {k : Nat} (hk : k < 60) (hf : ¬ M.1 483 k = 0 → 0 < M.1 483 k) : CtI l E yX9_strength (.code yX9_strength cX9_strength 2 (some .int) :: gl) ({ frames := 1, cells := 0, slots := 0, locals := 22 } : Room) M [.ref (E.2.2 478), .int (nI k)] 0 0 (fun r M2 => r = strI (M.1 479 k) (M.1 483 k) (M.1 484 k) (M.1 478 1) ∧ M2 = M) := by
  refine ctI_of (L0 := [some (.ref (E.2.2 478)), some (.int (nI k))]) (by decide) rfl (Nat.le_of_ble_eq_true rfl) rfl ?_
  intro Z hl hE hnl F ret
  subst hE
  have in_X9 : ∀ w ∈ u_ws RX9 TX9 33, w ∈ (.code yX9_strength cX9_strength 2 (some .int) :: gl) := fun w h => List.mem_cons_of_mem _ (lay_X9 w h)
  have g7 : FG Z 7 9 3 := fg_mk F (C := RX9) (T := TX9) (N := 33) in_X9 rfl (by decide) rfl (List.mem_cons_of_mem _ fk_X9_7)
  have g22 : FG Z 22 9 7 := fg_mk F (C := RX9) (T := TX9) (N := 33) in_X9 rfl (by decide) rfl (List.mem_cons_of_mem _ fk_X9_22)
  have g25 : FG Z 25 9 8 := fg_mk F (C := RX9) (T := TX9) (N := 33) in_X9 rfl (by decide) rfl (List.mem_cons_of_mem _ fk_X9_25)
  have g126 : FG Z 126 9 1 := fg_mk F (C := RX9) (T := TX9) (N := 33) in_X9 rfl (by decide) rfl (List.mem_cons_of_mem _ fk_X9_126)
  have kM := kd_M
  have k479 := kd_479
  have k480 := kd_480
  have k481 := kd_481
  have k482 := kd_482
  have k483 := kd_483
  have k484 := kd_484
  have k485 := kd_485
  have k486 := kd_486
  have k487 := kd_487
  have k488 := kd_488
  have k489 := kd_489
  have k490 := kd_490
  have k491 := kd_491
  have k492 := kd_492
  have k493 := kd_493
  have k494 := kd_494
  have k495 := kd_495
  have k496 := kd_496
  have k497 := kd_497
  have k498 := kd_498
  have k499 := kd_499
  have k500 := kd_500
  have k501 := kd_501
  have k502 := kd_502
  have k503 := kd_503
  refine jj_aload_n F dX9_strength_0 rfl ?_
  refine jj_getr F g7 (by assumption) (by rfl) dX9_strength_1 ?_
  refine jj_iload_n F dX9_strength_4 rfl ?_
  refine jj_iald F (by assumption) rfl (by omega) dX9_strength_5 ?_
  refine jj_iconst F (v := nI 2) dX9_strength_6 (by decide) ?_
  refine jj_icmp_eq F (tgt := 22) dX9_strength_7 (by decide) (fun h7 => ?_) (fun h7 => ?_)
  · refine jj_iconst F (v := nI 0) dX9_strength_22 (by decide) ?_
    refine ret _ _ _ _ dX9_strength_23 (by first | rfl | exact nar_z (by first | exact Or.inl rfl | exact Or.inr rfl | exact b2i_01 _ | assumption)) ?_
    refine ⟨?_, rfl⟩
    unfold strI
    first
    | (rw [if_pos (Or.inl h7)]; done)
    | (rw [if_pos (Or.inr (van_t h19))]; done)
  · refine jj_aload_n F dX9_strength_10 rfl ?_
    refine jj_iload_n F dX9_strength_11 rfl ?_
    refine jj_aload_n F dX9_strength_12 rfl ?_
    refine jj_geti F g126 (by assumption) (by rfl) dX9_strength_13 ?_
    refine jj_callVi (na := 2) F (c_X9_isVanished (by omega)) (gl_V mk_X9_112 vw_X9_isVanished) rfl rfl rfl (by decide +kernel) ⟨Nat.le_of_ble_eq_true rfl, Nat.le_of_ble_eq_true rfl⟩ (by assumption) rfl rfl rfl (Nat.le_of_ble_eq_true rfl) ⟨Nat.le_of_ble_eq_true rfl, Nat.le_of_ble_eq_true rfl⟩ dX9_strength_16 (fun r16 M16 hp16 => ?_)
    obtain ⟨rfl, rfl⟩ := symm2 hp16
    refine jj_if_eq F (tgt := 24) dX9_strength_19 (by decide) (fun h19 => ?_) (fun h19 => ?_)
    · refine jj_aload_n F dX9_strength_24 rfl ?_
      refine jj_getr F g22 (by assumption) (by rfl) dX9_strength_25 ?_
      refine jj_iload_n F dX9_strength_28 rfl ?_
      refine jj_iald F (by assumption) rfl (by omega) dX9_strength_29 ?_
      refine jj_if_ne F (tgt := 38) dX9_strength_30 (by decide) (fun h30 => ?_) (fun h30 => ?_)
      · refine jj_bipush F (v := nI 100) dX9_strength_38 (by decide) ?_
        refine jj_aload_n F dX9_strength_40 rfl ?_
        refine jj_getr F g25 (by assumption) (by rfl) dX9_strength_41 ?_
        refine jj_iload_n F dX9_strength_44 rfl ?_
        refine jj_iald F (by assumption) rfl (by omega) dX9_strength_45 ?_
        refine jj_aload_n F dX9_strength_46 rfl ?_
        refine jj_getr F g22 (by assumption) (by rfl) dX9_strength_47 ?_
        refine jj_iload_n F dX9_strength_50 rfl ?_
        refine jj_iald F (by assumption) rfl (by omega) dX9_strength_51 ?_
        refine jj_iadd F dX9_strength_52 ?_
        refine jj_aload_n F dX9_strength_53 rfl ?_
        refine jj_geti F g126 (by assumption) (by rfl) dX9_strength_54 ?_
        refine jj_isub F dX9_strength_57 ?_
        refine jj_imul F dX9_strength_58 ?_
        refine jj_aload_n F dX9_strength_59 rfl ?_
        refine jj_getr F g22 (by assumption) (by rfl) dX9_strength_60 ?_
        refine jj_iload_n F dX9_strength_63 rfl ?_
        refine jj_iald F (by assumption) rfl (by omega) dX9_strength_64 ?_
        refine jj_idiv F dX9_strength_65 (by first | decide | assumption) ?_
        refine ret _ _ _ _ dX9_strength_66 (by first | rfl | exact nar_z (by first | exact Or.inl rfl | exact Or.inr rfl | exact b2i_01 _ | assumption)) ?_
        refine ⟨?_, rfl⟩
        unfold strI
        rw [if_neg (by rintro (z | z); exact h7 z; rw [van_f h19] at z; cases z)]
        first
        | (rw [if_neg (by rw [h30]; decide)]; done)
        | (rw [if_pos (hf h30)]; done)
      · refine jj_bipush F (v := nI 100) dX9_strength_33 (by decide) ?_
        refine jj_goto F (tgt := 66) dX9_strength_35 (by decide) ?_
        refine ret _ _ _ _ dX9_strength_66 (by first | rfl | exact nar_z (by first | exact Or.inl rfl | exact Or.inr rfl | exact b2i_01 _ | assumption)) ?_
        refine ⟨?_, rfl⟩
        unfold strI
        rw [if_neg (by rintro (z | z); exact h7 z; rw [van_f h19] at z; cases z)]
        first
        | (rw [if_neg (by rw [h30]; decide)]; done)
        | (rw [if_pos (hf h30)]; done)
    · refine jj_iconst F (v := nI 0) dX9_strength_22 (by decide) ?_
      refine ret _ _ _ _ dX9_strength_23 (by first | rfl | exact nar_z (by first | exact Or.inl rfl | exact Or.inr rfl | exact b2i_01 _ | assumption)) ?_
      refine ⟨?_, rfl⟩
      unfold strI
      first
      | (rw [if_pos (Or.inl h7)]; done)
      | (rw [if_pos (Or.inr (van_t h19))]; done)
set_option maxRecDepth 100000 in
set_option maxHeartbeats 1000000 in
theorem c_X9_mix {l : Launch} {E : Ee} {M : Mm} {v : Int64} : CtV l E yX9_mix (.code yX9_mix cX9_mix 3 none :: gl) ({ frames := 0, cells := 0, slots := 0, locals := 0 } : Room) M [.ref (E.2.2 478), .long v] 0 0 (fun M2 => M2 = wL M 478 (vp_updL (M.2 478) 32 (31 * M.2 478 32 + v))) := by
  refine ctV_of (L0 := [some (.ref (E.2.2 478)), some (.long v), none]) (by decide) rfl (Nat.le_of_ble_eq_true rfl) rfl ?_
  intro Z hl hE hnl F ret
  subst hE
  have in_X9 : ∀ w ∈ u_ws RX9 TX9 33, w ∈ (.code yX9_mix cX9_mix 3 none :: gl) := fun w h => List.mem_cons_of_mem _ (lay_X9 w h)
  have g300 : FG Z 300 9 32 := fg_mk F (C := RX9) (T := TX9) (N := 33) in_X9 rfl (by decide) rfl (List.mem_cons_of_mem _ fk_X9_300)
  have p300 : FP Z 300 9 32 .long := fp_mk F (C := RX9) (T := TX9) (N := 33) in_X9 tyX9_ok nmX9 rfl (by decide) rfl (List.mem_cons_of_mem _ fk_X9_300) rfl (by decide +kernel)
  have kM := kd_M
  have k479 := kd_479
  have k480 := kd_480
  have k481 := kd_481
  have k482 := kd_482
  have k483 := kd_483
  have k484 := kd_484
  have k485 := kd_485
  have k486 := kd_486
  have k487 := kd_487
  have k488 := kd_488
  have k489 := kd_489
  have k490 := kd_490
  have k491 := kd_491
  have k492 := kd_492
  have k493 := kd_493
  have k494 := kd_494
  have k495 := kd_495
  have k496 := kd_496
  have k497 := kd_497
  have k498 := kd_498
  have k499 := kd_499
  have k500 := kd_500
  have k501 := kd_501
  have k502 := kd_502
  have k503 := kd_503
  refine jj_aload_n F dX9_mix_0 rfl ?_
  refine jj_ldc2 F (v := 31) dX9_mix_1 (F.hts _ (List.mem_cons_of_mem _ (gl_tb (by decide +kernel) rfl))) ?_
  refine jj_aload_n F dX9_mix_4 rfl ?_
  refine jj_getl F g300 (by assumption) (by rfl) dX9_mix_5 ?_
  refine jj_lmul F dX9_mix_8 ?_
  refine jj_lload_n F dX9_mix_9 rfl ?_
  refine jj_ladd F dX9_mix_10 ?_
  refine jj_putl F p300 (by assumption) (by rfl) dX9_mix_11 ?_
  refine ret _ _ _ dX9_mix_14 ?_
  exact rfl
theorem wi_n {x lo hi : Nat} (h1 : x < 2 ^ 31) (h2 : lo < 2 ^ 31) (h3 : hi < 2 ^ 31) : wiB (nI x) (nI lo) (nI hi) = (decide (lo ≤ x) && decide (x ≤ hi)) := by
  unfold wiB
  rw [Bool.eq_iff_iff]
  simp only [Bool.and_eq_true, decide_eq_true_eq]
  rw [nI_leI h2 h1, nI_leI h1 h3]
theorem rect_ll {a b c : Nat} (h1 : a % 16 < b % 16) (h2 : a / 16 < b / 16) : rect a b c = ((decide (a % 16 ≤ c % 16) && decide (c % 16 ≤ b % 16)) && (decide (a / 16 ≤ c / 16) && decide (c / 16 ≤ b / 16))) := by
  unfold rect; rw [Nat.min_eq_left (by omega), Nat.max_eq_right (by omega), Nat.min_eq_left (by omega), Nat.max_eq_right (by omega)]; simp only [Bool.and_assoc]
theorem rect_lg {a b c : Nat} (h1 : a % 16 < b % 16) (h2 : ¬ a / 16 < b / 16) : rect a b c = ((decide (a % 16 ≤ c % 16) && decide (c % 16 ≤ b % 16)) && (decide (b / 16 ≤ c / 16) && decide (c / 16 ≤ a / 16))) := by
  unfold rect; rw [Nat.min_eq_left (by omega), Nat.max_eq_right (by omega), Nat.min_eq_right (by omega), Nat.max_eq_left (by omega)]; simp only [Bool.and_assoc]
theorem rect_gl {a b c : Nat} (h1 : ¬ a % 16 < b % 16) (h2 : a / 16 < b / 16) : rect a b c = ((decide (b % 16 ≤ c % 16) && decide (c % 16 ≤ a % 16)) && (decide (a / 16 ≤ c / 16) && decide (c / 16 ≤ b / 16))) := by
  unfold rect; rw [Nat.min_eq_right (by omega), Nat.max_eq_left (by omega), Nat.min_eq_left (by omega), Nat.max_eq_right (by omega)]; simp only [Bool.and_assoc]
theorem rect_gg {a b c : Nat} (h1 : ¬ a % 16 < b % 16) (h2 : ¬ a / 16 < b / 16) : rect a b c = ((decide (b % 16 ≤ c % 16) && decide (c % 16 ≤ a % 16)) && (decide (b / 16 ≤ c / 16) && decide (c / 16 ≤ a / 16))) := by
  unfold rect; rw [Nat.min_eq_right (by omega), Nat.max_eq_left (by omega), Nat.min_eq_right (by omega), Nat.max_eq_left (by omega)]; simp only [Bool.and_assoc]
set_option maxRecDepth 100000 in
set_option maxHeartbeats 1000000 in
theorem c_X9_isInLease {l : Launch} {E : Ee} {M : Mm} {k fa la c : Nat} (hk : k < 6) (hf1 : M.1 489 k = nI fa) (hl1 : M.1 490 k = nI la) (hfa : fa < 256) (hla : la < 256) (hc : c < 256) : CtI l E yX9_isInLease (.code yX9_isInLease cX9_isInLease 8 (some .boolean) :: gl) ({ frames := 1, cells := 0, slots := 0, locals := 22 } : Room) M [.ref (E.2.2 478), .int (nI k), .int (nI c)] 0 0 (fun r M2 => r = b2i (rect fa la c) ∧ M2 = M) := by
  refine ctI_of (L0 := [some (.ref (E.2.2 478)), some (.int (nI k)), some (.int (nI c)), none, none, none, none, none]) (by decide) rfl (Nat.le_of_ble_eq_true rfl) rfl ?_
  intro Z hl hE hnl F ret
  subst hE
  have in_X9 : ∀ w ∈ u_ws RX9 TX9 33, w ∈ (.code yX9_isInLease cX9_isInLease 8 (some .boolean) :: gl) := fun w h => List.mem_cons_of_mem _ (lay_X9 w h)
  have g42 : FG Z 42 9 15 := fg_mk F (C := RX9) (T := TX9) (N := 33) in_X9 rfl (by decide) rfl (List.mem_cons_of_mem _ fk_X9_42)
  have g45 : FG Z 45 9 16 := fg_mk F (C := RX9) (T := TX9) (N := 33) in_X9 rfl (by decide) rfl (List.mem_cons_of_mem _ fk_X9_45)
  have kM := kd_M
  have k479 := kd_479
  have k480 := kd_480
  have k481 := kd_481
  have k482 := kd_482
  have k483 := kd_483
  have k484 := kd_484
  have k485 := kd_485
  have k486 := kd_486
  have k487 := kd_487
  have k488 := kd_488
  have k489 := kd_489
  have k490 := kd_490
  have k491 := kd_491
  have k492 := kd_492
  have k493 := kd_493
  have k494 := kd_494
  have k495 := kd_495
  have k496 := kd_496
  have k497 := kd_497
  have k498 := kd_498
  have k499 := kd_499
  have k500 := kd_500
  have k501 := kd_501
  have k502 := kd_502
  have k503 := kd_503
  by_cases hx : fa % 16 < la % 16
  · by_cases hy : fa / 16 < la / 16
    · refine jj_aload_n F dX9_isInLease_0 rfl ?_
      refine jj_getr F g42 (by assumption) (by rfl) dX9_isInLease_1 ?_
      refine jj_iload_n F dX9_isInLease_4 rfl ?_
      refine jj_iald F (by assumption) rfl (by omega) dX9_isInLease_5 ?_
      rw [hf1]
      refine jj_bipush F (v := nI 16) dX9_isInLease_6 (by decide) ?_
      refine jj_irem F dX9_isInLease_8 (by first | decide | assumption) ?_
      rw [show nI fa - nI fa / nI 16 * nI 16 = nI (fa % 16) from pk_rem (by omega) (by omega) (by omega)]
      refine jj_istore_n F dX9_isInLease_9 (by rw [hnl]; decide) ?_
      dsimp only [lq_st, lq_clr, lq_no]
      refine jj_aload_n F dX9_isInLease_10 rfl ?_
      refine jj_getr F g45 (by assumption) (by rfl) dX9_isInLease_11 ?_
      refine jj_iload_n F dX9_isInLease_14 rfl ?_
      refine jj_iald F (by assumption) rfl (by omega) dX9_isInLease_15 ?_
      rw [hl1]
      refine jj_bipush F (v := nI 16) dX9_isInLease_16 (by decide) ?_
      refine jj_irem F dX9_isInLease_18 (by first | decide | assumption) ?_
      rw [show nI la - nI la / nI 16 * nI 16 = nI (la % 16) from pk_rem (by omega) (by omega) (by omega)]
      refine jj_istore F dX9_isInLease_19 (by rw [hnl]; decide) ?_
      dsimp only [lq_st, lq_clr, lq_no]
      refine jj_aload_n F dX9_isInLease_21 rfl ?_
      refine jj_getr F g42 (by assumption) (by rfl) dX9_isInLease_22 ?_
      refine jj_iload_n F dX9_isInLease_25 rfl ?_
      refine jj_iald F (by assumption) rfl (by omega) dX9_isInLease_26 ?_
      rw [hf1]
      refine jj_bipush F (v := nI 16) dX9_isInLease_27 (by decide) ?_
      refine jj_idiv F dX9_isInLease_29 (by first | decide | assumption) ?_
      rw [show nI fa / nI 16 = nI (fa / 16) from pk_div (by omega) (by omega) (by omega)]
      refine jj_istore F dX9_isInLease_30 (by rw [hnl]; decide) ?_
      dsimp only [lq_st, lq_clr, lq_no]
      refine jj_aload_n F dX9_isInLease_32 rfl ?_
      refine jj_getr F g45 (by assumption) (by rfl) dX9_isInLease_33 ?_
      refine jj_iload_n F dX9_isInLease_36 rfl ?_
      refine jj_iald F (by assumption) rfl (by omega) dX9_isInLease_37 ?_
      rw [hl1]
      refine jj_bipush F (v := nI 16) dX9_isInLease_38 (by decide) ?_
      refine jj_idiv F dX9_isInLease_40 (by first | decide | assumption) ?_
      rw [show nI la / nI 16 = nI (la / 16) from pk_div (by omega) (by omega) (by omega)]
      refine jj_istore F dX9_isInLease_41 (by rw [hnl]; decide) ?_
      dsimp only [lq_st, lq_clr, lq_no]
      refine jj_iload_n F dX9_isInLease_43 rfl ?_
      refine jj_bipush F (v := nI 16) dX9_isInLease_44 (by decide) ?_
      refine jj_irem F dX9_isInLease_46 (by first | decide | assumption) ?_
      rw [show nI c - nI c / nI 16 * nI 16 = nI (c % 16) from pk_rem (by omega) (by omega) (by omega)]
      refine jj_iload_n F dX9_isInLease_47 rfl ?_
      refine jj_iload F dX9_isInLease_48 rfl ?_
      refine jj_icmp_ge F (tgt := 57) dX9_isInLease_50 (by decide) (fun h9 => absurd h9 (nI_ge (by omega) (by omega))) (fun _ => ?_)
      refine jj_iload_n F dX9_isInLease_53 rfl ?_
      refine jj_goto F (tgt := 59) dX9_isInLease_54 (by decide) ?_
      refine jj_iload_n F dX9_isInLease_59 rfl ?_
      refine jj_iload F dX9_isInLease_60 rfl ?_
      refine jj_icmp_ge F (tgt := 70) dX9_isInLease_62 (by decide) (fun h9 => absurd h9 (nI_ge (by omega) (by omega))) (fun _ => ?_)
      refine jj_iload F dX9_isInLease_65 rfl ?_
      refine jj_goto F (tgt := 71) dX9_isInLease_67 (by decide) ?_
      refine jj_callSi (na := 3) F c_X9_within (gl_S mk_X9_91 vw_X9_within) rfl rfl rfl (by decide +kernel) ⟨Nat.le_of_ble_eq_true rfl, Nat.le_of_ble_eq_true rfl⟩ rfl rfl (Nat.le_of_ble_eq_true rfl) ⟨Nat.le_of_ble_eq_true rfl, Nat.le_of_ble_eq_true rfl⟩ dX9_isInLease_71 (fun r71 M71 hp71 => ?_)
      obtain ⟨rfl, rfl⟩ := symm2 hp71
      rw [wi_n (by omega) (by omega) (by omega)]
      refine jj_istore F dX9_isInLease_74 (by rw [hnl]; decide) ?_
      dsimp only [lq_st, lq_clr, lq_no]
      refine jj_iload F dX9_isInLease_76 rfl ?_
      refine jj_if_eq F (tgt := 123) dX9_isInLease_78 (by decide) (fun h78 => ?_) (fun h78 => ?_)
      · refine jj_iconst F (v := nI 0) dX9_isInLease_123 (by decide) ?_
        refine ret _ _ _ _ dX9_isInLease_124 (nar_z (Or.inl rfl)) ⟨b2i_f ?_, rfl⟩
        first
        | (rw [rect_ll hx hy, van_f h78]; rfl)
        | (rw [rect_ll hx hy, van_f h116, Bool.and_false])
      · refine jj_iload_n F dX9_isInLease_81 rfl ?_
        refine jj_bipush F (v := nI 16) dX9_isInLease_82 (by decide) ?_
        refine jj_idiv F dX9_isInLease_84 (by first | decide | assumption) ?_
        rw [show nI c / nI 16 = nI (c / 16) from pk_div (by omega) (by omega) (by omega)]
        refine jj_iload F dX9_isInLease_85 rfl ?_
        refine jj_iload F dX9_isInLease_87 rfl ?_
        refine jj_icmp_ge F (tgt := 97) dX9_isInLease_89 (by decide) (fun h9 => absurd h9 (nI_ge (by omega) (by omega))) (fun _ => ?_)
        refine jj_iload F dX9_isInLease_92 rfl ?_
        refine jj_goto F (tgt := 99) dX9_isInLease_94 (by decide) ?_
        refine jj_iload F dX9_isInLease_99 rfl ?_
        refine jj_iload F dX9_isInLease_101 rfl ?_
        refine jj_icmp_ge F (tgt := 111) dX9_isInLease_103 (by decide) (fun h9 => absurd h9 (nI_ge (by omega) (by omega))) (fun _ => ?_)
        refine jj_iload F dX9_isInLease_106 rfl ?_
        refine jj_goto F (tgt := 113) dX9_isInLease_108 (by decide) ?_
        refine jj_callSi (na := 3) F c_X9_within (gl_S mk_X9_91 vw_X9_within) rfl rfl rfl (by decide +kernel) ⟨Nat.le_of_ble_eq_true rfl, Nat.le_of_ble_eq_true rfl⟩ rfl rfl (Nat.le_of_ble_eq_true rfl) ⟨Nat.le_of_ble_eq_true rfl, Nat.le_of_ble_eq_true rfl⟩ dX9_isInLease_113 (fun r113 M113 hp113 => ?_)
        obtain ⟨rfl, rfl⟩ := symm2 hp113
        rw [wi_n (by omega) (by omega) (by omega)]
        refine jj_if_eq F (tgt := 123) dX9_isInLease_116 (by decide) (fun h116 => ?_) (fun h116 => ?_)
        · refine jj_iconst F (v := nI 0) dX9_isInLease_123 (by decide) ?_
          refine ret _ _ _ _ dX9_isInLease_124 (nar_z (Or.inl rfl)) ⟨b2i_f ?_, rfl⟩
          first
          | (rw [rect_ll hx hy, van_f h78]; rfl)
          | (rw [rect_ll hx hy, van_f h116, Bool.and_false])
        · refine jj_iconst F (v := nI 1) dX9_isInLease_119 (by decide) ?_
          refine jj_goto F (tgt := 124) dX9_isInLease_120 (by decide) ?_
          refine ret _ _ _ _ dX9_isInLease_124 (nar_z (Or.inr rfl)) ⟨b2i_t ?_, rfl⟩
          rw [rect_ll hx hy, van_t h78, van_t h116]
          rfl
    · refine jj_aload_n F dX9_isInLease_0 rfl ?_
      refine jj_getr F g42 (by assumption) (by rfl) dX9_isInLease_1 ?_
      refine jj_iload_n F dX9_isInLease_4 rfl ?_
      refine jj_iald F (by assumption) rfl (by omega) dX9_isInLease_5 ?_
      rw [hf1]
      refine jj_bipush F (v := nI 16) dX9_isInLease_6 (by decide) ?_
      refine jj_irem F dX9_isInLease_8 (by first | decide | assumption) ?_
      rw [show nI fa - nI fa / nI 16 * nI 16 = nI (fa % 16) from pk_rem (by omega) (by omega) (by omega)]
      refine jj_istore_n F dX9_isInLease_9 (by rw [hnl]; decide) ?_
      dsimp only [lq_st, lq_clr, lq_no]
      refine jj_aload_n F dX9_isInLease_10 rfl ?_
      refine jj_getr F g45 (by assumption) (by rfl) dX9_isInLease_11 ?_
      refine jj_iload_n F dX9_isInLease_14 rfl ?_
      refine jj_iald F (by assumption) rfl (by omega) dX9_isInLease_15 ?_
      rw [hl1]
      refine jj_bipush F (v := nI 16) dX9_isInLease_16 (by decide) ?_
      refine jj_irem F dX9_isInLease_18 (by first | decide | assumption) ?_
      rw [show nI la - nI la / nI 16 * nI 16 = nI (la % 16) from pk_rem (by omega) (by omega) (by omega)]
      refine jj_istore F dX9_isInLease_19 (by rw [hnl]; decide) ?_
      dsimp only [lq_st, lq_clr, lq_no]
      refine jj_aload_n F dX9_isInLease_21 rfl ?_
      refine jj_getr F g42 (by assumption) (by rfl) dX9_isInLease_22 ?_
      refine jj_iload_n F dX9_isInLease_25 rfl ?_
      refine jj_iald F (by assumption) rfl (by omega) dX9_isInLease_26 ?_
      rw [hf1]
      refine jj_bipush F (v := nI 16) dX9_isInLease_27 (by decide) ?_
      refine jj_idiv F dX9_isInLease_29 (by first | decide | assumption) ?_
      rw [show nI fa / nI 16 = nI (fa / 16) from pk_div (by omega) (by omega) (by omega)]
      refine jj_istore F dX9_isInLease_30 (by rw [hnl]; decide) ?_
      dsimp only [lq_st, lq_clr, lq_no]
      refine jj_aload_n F dX9_isInLease_32 rfl ?_
      refine jj_getr F g45 (by assumption) (by rfl) dX9_isInLease_33 ?_
      refine jj_iload_n F dX9_isInLease_36 rfl ?_
      refine jj_iald F (by assumption) rfl (by omega) dX9_isInLease_37 ?_
      rw [hl1]
      refine jj_bipush F (v := nI 16) dX9_isInLease_38 (by decide) ?_
      refine jj_idiv F dX9_isInLease_40 (by first | decide | assumption) ?_
      rw [show nI la / nI 16 = nI (la / 16) from pk_div (by omega) (by omega) (by omega)]
      refine jj_istore F dX9_isInLease_41 (by rw [hnl]; decide) ?_
      dsimp only [lq_st, lq_clr, lq_no]
      refine jj_iload_n F dX9_isInLease_43 rfl ?_
      refine jj_bipush F (v := nI 16) dX9_isInLease_44 (by decide) ?_
      refine jj_irem F dX9_isInLease_46 (by first | decide | assumption) ?_
      rw [show nI c - nI c / nI 16 * nI 16 = nI (c % 16) from pk_rem (by omega) (by omega) (by omega)]
      refine jj_iload_n F dX9_isInLease_47 rfl ?_
      refine jj_iload F dX9_isInLease_48 rfl ?_
      refine jj_icmp_ge F (tgt := 57) dX9_isInLease_50 (by decide) (fun h9 => absurd h9 (nI_ge (by omega) (by omega))) (fun _ => ?_)
      refine jj_iload_n F dX9_isInLease_53 rfl ?_
      refine jj_goto F (tgt := 59) dX9_isInLease_54 (by decide) ?_
      refine jj_iload_n F dX9_isInLease_59 rfl ?_
      refine jj_iload F dX9_isInLease_60 rfl ?_
      refine jj_icmp_ge F (tgt := 70) dX9_isInLease_62 (by decide) (fun h9 => absurd h9 (nI_ge (by omega) (by omega))) (fun _ => ?_)
      refine jj_iload F dX9_isInLease_65 rfl ?_
      refine jj_goto F (tgt := 71) dX9_isInLease_67 (by decide) ?_
      refine jj_callSi (na := 3) F c_X9_within (gl_S mk_X9_91 vw_X9_within) rfl rfl rfl (by decide +kernel) ⟨Nat.le_of_ble_eq_true rfl, Nat.le_of_ble_eq_true rfl⟩ rfl rfl (Nat.le_of_ble_eq_true rfl) ⟨Nat.le_of_ble_eq_true rfl, Nat.le_of_ble_eq_true rfl⟩ dX9_isInLease_71 (fun r71 M71 hp71 => ?_)
      obtain ⟨rfl, rfl⟩ := symm2 hp71
      rw [wi_n (by omega) (by omega) (by omega)]
      refine jj_istore F dX9_isInLease_74 (by rw [hnl]; decide) ?_
      dsimp only [lq_st, lq_clr, lq_no]
      refine jj_iload F dX9_isInLease_76 rfl ?_
      refine jj_if_eq F (tgt := 123) dX9_isInLease_78 (by decide) (fun h78 => ?_) (fun h78 => ?_)
      · refine jj_iconst F (v := nI 0) dX9_isInLease_123 (by decide) ?_
        refine ret _ _ _ _ dX9_isInLease_124 (nar_z (Or.inl rfl)) ⟨b2i_f ?_, rfl⟩
        first
        | (rw [rect_lg hx hy, van_f h78]; rfl)
        | (rw [rect_lg hx hy, van_f h116, Bool.and_false])
      · refine jj_iload_n F dX9_isInLease_81 rfl ?_
        refine jj_bipush F (v := nI 16) dX9_isInLease_82 (by decide) ?_
        refine jj_idiv F dX9_isInLease_84 (by first | decide | assumption) ?_
        rw [show nI c / nI 16 = nI (c / 16) from pk_div (by omega) (by omega) (by omega)]
        refine jj_iload F dX9_isInLease_85 rfl ?_
        refine jj_iload F dX9_isInLease_87 rfl ?_
        refine jj_icmp_ge F (tgt := 97) dX9_isInLease_89 (by decide) (fun _ => ?_) (fun h9 => absurd (nI_le (by omega) (by omega)) h9)
        refine jj_iload F dX9_isInLease_97 rfl ?_
        refine jj_iload F dX9_isInLease_99 rfl ?_
        refine jj_iload F dX9_isInLease_101 rfl ?_
        refine jj_icmp_ge F (tgt := 111) dX9_isInLease_103 (by decide) (fun _ => ?_) (fun h9 => absurd (nI_le (by omega) (by omega)) h9)
        refine jj_iload F dX9_isInLease_111 rfl ?_
        refine jj_callSi (na := 3) F c_X9_within (gl_S mk_X9_91 vw_X9_within) rfl rfl rfl (by decide +kernel) ⟨Nat.le_of_ble_eq_true rfl, Nat.le_of_ble_eq_true rfl⟩ rfl rfl (Nat.le_of_ble_eq_true rfl) ⟨Nat.le_of_ble_eq_true rfl, Nat.le_of_ble_eq_true rfl⟩ dX9_isInLease_113 (fun r113 M113 hp113 => ?_)
        obtain ⟨rfl, rfl⟩ := symm2 hp113
        rw [wi_n (by omega) (by omega) (by omega)]
        refine jj_if_eq F (tgt := 123) dX9_isInLease_116 (by decide) (fun h116 => ?_) (fun h116 => ?_)
        · refine jj_iconst F (v := nI 0) dX9_isInLease_123 (by decide) ?_
          refine ret _ _ _ _ dX9_isInLease_124 (nar_z (Or.inl rfl)) ⟨b2i_f ?_, rfl⟩
          first
          | (rw [rect_lg hx hy, van_f h78]; rfl)
          | (rw [rect_lg hx hy, van_f h116, Bool.and_false])
        · refine jj_iconst F (v := nI 1) dX9_isInLease_119 (by decide) ?_
          refine jj_goto F (tgt := 124) dX9_isInLease_120 (by decide) ?_
          refine ret _ _ _ _ dX9_isInLease_124 (nar_z (Or.inr rfl)) ⟨b2i_t ?_, rfl⟩
          rw [rect_lg hx hy, van_t h78, van_t h116]
          rfl
  · by_cases hy : fa / 16 < la / 16
    · refine jj_aload_n F dX9_isInLease_0 rfl ?_
      refine jj_getr F g42 (by assumption) (by rfl) dX9_isInLease_1 ?_
      refine jj_iload_n F dX9_isInLease_4 rfl ?_
      refine jj_iald F (by assumption) rfl (by omega) dX9_isInLease_5 ?_
      rw [hf1]
      refine jj_bipush F (v := nI 16) dX9_isInLease_6 (by decide) ?_
      refine jj_irem F dX9_isInLease_8 (by first | decide | assumption) ?_
      rw [show nI fa - nI fa / nI 16 * nI 16 = nI (fa % 16) from pk_rem (by omega) (by omega) (by omega)]
      refine jj_istore_n F dX9_isInLease_9 (by rw [hnl]; decide) ?_
      dsimp only [lq_st, lq_clr, lq_no]
      refine jj_aload_n F dX9_isInLease_10 rfl ?_
      refine jj_getr F g45 (by assumption) (by rfl) dX9_isInLease_11 ?_
      refine jj_iload_n F dX9_isInLease_14 rfl ?_
      refine jj_iald F (by assumption) rfl (by omega) dX9_isInLease_15 ?_
      rw [hl1]
      refine jj_bipush F (v := nI 16) dX9_isInLease_16 (by decide) ?_
      refine jj_irem F dX9_isInLease_18 (by first | decide | assumption) ?_
      rw [show nI la - nI la / nI 16 * nI 16 = nI (la % 16) from pk_rem (by omega) (by omega) (by omega)]
      refine jj_istore F dX9_isInLease_19 (by rw [hnl]; decide) ?_
      dsimp only [lq_st, lq_clr, lq_no]
      refine jj_aload_n F dX9_isInLease_21 rfl ?_
      refine jj_getr F g42 (by assumption) (by rfl) dX9_isInLease_22 ?_
      refine jj_iload_n F dX9_isInLease_25 rfl ?_
      refine jj_iald F (by assumption) rfl (by omega) dX9_isInLease_26 ?_
      rw [hf1]
      refine jj_bipush F (v := nI 16) dX9_isInLease_27 (by decide) ?_
      refine jj_idiv F dX9_isInLease_29 (by first | decide | assumption) ?_
      rw [show nI fa / nI 16 = nI (fa / 16) from pk_div (by omega) (by omega) (by omega)]
      refine jj_istore F dX9_isInLease_30 (by rw [hnl]; decide) ?_
      dsimp only [lq_st, lq_clr, lq_no]
      refine jj_aload_n F dX9_isInLease_32 rfl ?_
      refine jj_getr F g45 (by assumption) (by rfl) dX9_isInLease_33 ?_
      refine jj_iload_n F dX9_isInLease_36 rfl ?_
      refine jj_iald F (by assumption) rfl (by omega) dX9_isInLease_37 ?_
      rw [hl1]
      refine jj_bipush F (v := nI 16) dX9_isInLease_38 (by decide) ?_
      refine jj_idiv F dX9_isInLease_40 (by first | decide | assumption) ?_
      rw [show nI la / nI 16 = nI (la / 16) from pk_div (by omega) (by omega) (by omega)]
      refine jj_istore F dX9_isInLease_41 (by rw [hnl]; decide) ?_
      dsimp only [lq_st, lq_clr, lq_no]
      refine jj_iload_n F dX9_isInLease_43 rfl ?_
      refine jj_bipush F (v := nI 16) dX9_isInLease_44 (by decide) ?_
      refine jj_irem F dX9_isInLease_46 (by first | decide | assumption) ?_
      rw [show nI c - nI c / nI 16 * nI 16 = nI (c % 16) from pk_rem (by omega) (by omega) (by omega)]
      refine jj_iload_n F dX9_isInLease_47 rfl ?_
      refine jj_iload F dX9_isInLease_48 rfl ?_
      refine jj_icmp_ge F (tgt := 57) dX9_isInLease_50 (by decide) (fun _ => ?_) (fun h9 => absurd (nI_le (by omega) (by omega)) h9)
      refine jj_iload F dX9_isInLease_57 rfl ?_
      refine jj_iload_n F dX9_isInLease_59 rfl ?_
      refine jj_iload F dX9_isInLease_60 rfl ?_
      refine jj_icmp_ge F (tgt := 70) dX9_isInLease_62 (by decide) (fun _ => ?_) (fun h9 => absurd (nI_le (by omega) (by omega)) h9)
      refine jj_iload_n F dX9_isInLease_70 rfl ?_
      refine jj_callSi (na := 3) F c_X9_within (gl_S mk_X9_91 vw_X9_within) rfl rfl rfl (by decide +kernel) ⟨Nat.le_of_ble_eq_true rfl, Nat.le_of_ble_eq_true rfl⟩ rfl rfl (Nat.le_of_ble_eq_true rfl) ⟨Nat.le_of_ble_eq_true rfl, Nat.le_of_ble_eq_true rfl⟩ dX9_isInLease_71 (fun r71 M71 hp71 => ?_)
      obtain ⟨rfl, rfl⟩ := symm2 hp71
      rw [wi_n (by omega) (by omega) (by omega)]
      refine jj_istore F dX9_isInLease_74 (by rw [hnl]; decide) ?_
      dsimp only [lq_st, lq_clr, lq_no]
      refine jj_iload F dX9_isInLease_76 rfl ?_
      refine jj_if_eq F (tgt := 123) dX9_isInLease_78 (by decide) (fun h78 => ?_) (fun h78 => ?_)
      · refine jj_iconst F (v := nI 0) dX9_isInLease_123 (by decide) ?_
        refine ret _ _ _ _ dX9_isInLease_124 (nar_z (Or.inl rfl)) ⟨b2i_f ?_, rfl⟩
        first
        | (rw [rect_gl hx hy, van_f h78]; rfl)
        | (rw [rect_gl hx hy, van_f h116, Bool.and_false])
      · refine jj_iload_n F dX9_isInLease_81 rfl ?_
        refine jj_bipush F (v := nI 16) dX9_isInLease_82 (by decide) ?_
        refine jj_idiv F dX9_isInLease_84 (by first | decide | assumption) ?_
        rw [show nI c / nI 16 = nI (c / 16) from pk_div (by omega) (by omega) (by omega)]
        refine jj_iload F dX9_isInLease_85 rfl ?_
        refine jj_iload F dX9_isInLease_87 rfl ?_
        refine jj_icmp_ge F (tgt := 97) dX9_isInLease_89 (by decide) (fun h9 => absurd h9 (nI_ge (by omega) (by omega))) (fun _ => ?_)
        refine jj_iload F dX9_isInLease_92 rfl ?_
        refine jj_goto F (tgt := 99) dX9_isInLease_94 (by decide) ?_
        refine jj_iload F dX9_isInLease_99 rfl ?_
        refine jj_iload F dX9_isInLease_101 rfl ?_
        refine jj_icmp_ge F (tgt := 111) dX9_isInLease_103 (by decide) (fun h9 => absurd h9 (nI_ge (by omega) (by omega))) (fun _ => ?_)
        refine jj_iload F dX9_isInLease_106 rfl ?_
        refine jj_goto F (tgt := 113) dX9_isInLease_108 (by decide) ?_
        refine jj_callSi (na := 3) F c_X9_within (gl_S mk_X9_91 vw_X9_within) rfl rfl rfl (by decide +kernel) ⟨Nat.le_of_ble_eq_true rfl, Nat.le_of_ble_eq_true rfl⟩ rfl rfl (Nat.le_of_ble_eq_true rfl) ⟨Nat.le_of_ble_eq_true rfl, Nat.le_of_ble_eq_true rfl⟩ dX9_isInLease_113 (fun r113 M113 hp113 => ?_)
        obtain ⟨rfl, rfl⟩ := symm2 hp113
        rw [wi_n (by omega) (by omega) (by omega)]
        refine jj_if_eq F (tgt := 123) dX9_isInLease_116 (by decide) (fun h116 => ?_) (fun h116 => ?_)
        · refine jj_iconst F (v := nI 0) dX9_isInLease_123 (by decide) ?_
          refine ret _ _ _ _ dX9_isInLease_124 (nar_z (Or.inl rfl)) ⟨b2i_f ?_, rfl⟩
          first
          | (rw [rect_gl hx hy, van_f h78]; rfl)
          | (rw [rect_gl hx hy, van_f h116, Bool.and_false])
        · refine jj_iconst F (v := nI 1) dX9_isInLease_119 (by decide) ?_
          refine jj_goto F (tgt := 124) dX9_isInLease_120 (by decide) ?_
          refine ret _ _ _ _ dX9_isInLease_124 (nar_z (Or.inr rfl)) ⟨b2i_t ?_, rfl⟩
          rw [rect_gl hx hy, van_t h78, van_t h116]
          rfl
    · refine jj_aload_n F dX9_isInLease_0 rfl ?_
      refine jj_getr F g42 (by assumption) (by rfl) dX9_isInLease_1 ?_
      refine jj_iload_n F dX9_isInLease_4 rfl ?_
      refine jj_iald F (by assumption) rfl (by omega) dX9_isInLease_5 ?_
      rw [hf1]
      refine jj_bipush F (v := nI 16) dX9_isInLease_6 (by decide) ?_
      refine jj_irem F dX9_isInLease_8 (by first | decide | assumption) ?_
      rw [show nI fa - nI fa / nI 16 * nI 16 = nI (fa % 16) from pk_rem (by omega) (by omega) (by omega)]
      refine jj_istore_n F dX9_isInLease_9 (by rw [hnl]; decide) ?_
      dsimp only [lq_st, lq_clr, lq_no]
      refine jj_aload_n F dX9_isInLease_10 rfl ?_
      refine jj_getr F g45 (by assumption) (by rfl) dX9_isInLease_11 ?_
      refine jj_iload_n F dX9_isInLease_14 rfl ?_
      refine jj_iald F (by assumption) rfl (by omega) dX9_isInLease_15 ?_
      rw [hl1]
      refine jj_bipush F (v := nI 16) dX9_isInLease_16 (by decide) ?_
      refine jj_irem F dX9_isInLease_18 (by first | decide | assumption) ?_
      rw [show nI la - nI la / nI 16 * nI 16 = nI (la % 16) from pk_rem (by omega) (by omega) (by omega)]
      refine jj_istore F dX9_isInLease_19 (by rw [hnl]; decide) ?_
      dsimp only [lq_st, lq_clr, lq_no]
      refine jj_aload_n F dX9_isInLease_21 rfl ?_
      refine jj_getr F g42 (by assumption) (by rfl) dX9_isInLease_22 ?_
      refine jj_iload_n F dX9_isInLease_25 rfl ?_
      refine jj_iald F (by assumption) rfl (by omega) dX9_isInLease_26 ?_
      rw [hf1]
      refine jj_bipush F (v := nI 16) dX9_isInLease_27 (by decide) ?_
      refine jj_idiv F dX9_isInLease_29 (by first | decide | assumption) ?_
      rw [show nI fa / nI 16 = nI (fa / 16) from pk_div (by omega) (by omega) (by omega)]
      refine jj_istore F dX9_isInLease_30 (by rw [hnl]; decide) ?_
      dsimp only [lq_st, lq_clr, lq_no]
      refine jj_aload_n F dX9_isInLease_32 rfl ?_
      refine jj_getr F g45 (by assumption) (by rfl) dX9_isInLease_33 ?_
      refine jj_iload_n F dX9_isInLease_36 rfl ?_
      refine jj_iald F (by assumption) rfl (by omega) dX9_isInLease_37 ?_
      rw [hl1]
      refine jj_bipush F (v := nI 16) dX9_isInLease_38 (by decide) ?_
      refine jj_idiv F dX9_isInLease_40 (by first | decide | assumption) ?_
      rw [show nI la / nI 16 = nI (la / 16) from pk_div (by omega) (by omega) (by omega)]
      refine jj_istore F dX9_isInLease_41 (by rw [hnl]; decide) ?_
      dsimp only [lq_st, lq_clr, lq_no]
      refine jj_iload_n F dX9_isInLease_43 rfl ?_
      refine jj_bipush F (v := nI 16) dX9_isInLease_44 (by decide) ?_
      refine jj_irem F dX9_isInLease_46 (by first | decide | assumption) ?_
      rw [show nI c - nI c / nI 16 * nI 16 = nI (c % 16) from pk_rem (by omega) (by omega) (by omega)]
      refine jj_iload_n F dX9_isInLease_47 rfl ?_
      refine jj_iload F dX9_isInLease_48 rfl ?_
      refine jj_icmp_ge F (tgt := 57) dX9_isInLease_50 (by decide) (fun _ => ?_) (fun h9 => absurd (nI_le (by omega) (by omega)) h9)
      refine jj_iload F dX9_isInLease_57 rfl ?_
      refine jj_iload_n F dX9_isInLease_59 rfl ?_
      refine jj_iload F dX9_isInLease_60 rfl ?_
      refine jj_icmp_ge F (tgt := 70) dX9_isInLease_62 (by decide) (fun _ => ?_) (fun h9 => absurd (nI_le (by omega) (by omega)) h9)
      refine jj_iload_n F dX9_isInLease_70 rfl ?_
      refine jj_callSi (na := 3) F c_X9_within (gl_S mk_X9_91 vw_X9_within) rfl rfl rfl (by decide +kernel) ⟨Nat.le_of_ble_eq_true rfl, Nat.le_of_ble_eq_true rfl⟩ rfl rfl (Nat.le_of_ble_eq_true rfl) ⟨Nat.le_of_ble_eq_true rfl, Nat.le_of_ble_eq_true rfl⟩ dX9_isInLease_71 (fun r71 M71 hp71 => ?_)
      obtain ⟨rfl, rfl⟩ := symm2 hp71
      rw [wi_n (by omega) (by omega) (by omega)]
      refine jj_istore F dX9_isInLease_74 (by rw [hnl]; decide) ?_
      dsimp only [lq_st, lq_clr, lq_no]
      refine jj_iload F dX9_isInLease_76 rfl ?_
      refine jj_if_eq F (tgt := 123) dX9_isInLease_78 (by decide) (fun h78 => ?_) (fun h78 => ?_)
      · refine jj_iconst F (v := nI 0) dX9_isInLease_123 (by decide) ?_
        refine ret _ _ _ _ dX9_isInLease_124 (nar_z (Or.inl rfl)) ⟨b2i_f ?_, rfl⟩
        first
        | (rw [rect_gg hx hy, van_f h78]; rfl)
        | (rw [rect_gg hx hy, van_f h116, Bool.and_false])
      · refine jj_iload_n F dX9_isInLease_81 rfl ?_
        refine jj_bipush F (v := nI 16) dX9_isInLease_82 (by decide) ?_
        refine jj_idiv F dX9_isInLease_84 (by first | decide | assumption) ?_
        rw [show nI c / nI 16 = nI (c / 16) from pk_div (by omega) (by omega) (by omega)]
        refine jj_iload F dX9_isInLease_85 rfl ?_
        refine jj_iload F dX9_isInLease_87 rfl ?_
        refine jj_icmp_ge F (tgt := 97) dX9_isInLease_89 (by decide) (fun _ => ?_) (fun h9 => absurd (nI_le (by omega) (by omega)) h9)
        refine jj_iload F dX9_isInLease_97 rfl ?_
        refine jj_iload F dX9_isInLease_99 rfl ?_
        refine jj_iload F dX9_isInLease_101 rfl ?_
        refine jj_icmp_ge F (tgt := 111) dX9_isInLease_103 (by decide) (fun _ => ?_) (fun h9 => absurd (nI_le (by omega) (by omega)) h9)
        refine jj_iload F dX9_isInLease_111 rfl ?_
        refine jj_callSi (na := 3) F c_X9_within (gl_S mk_X9_91 vw_X9_within) rfl rfl rfl (by decide +kernel) ⟨Nat.le_of_ble_eq_true rfl, Nat.le_of_ble_eq_true rfl⟩ rfl rfl (Nat.le_of_ble_eq_true rfl) ⟨Nat.le_of_ble_eq_true rfl, Nat.le_of_ble_eq_true rfl⟩ dX9_isInLease_113 (fun r113 M113 hp113 => ?_)
        obtain ⟨rfl, rfl⟩ := symm2 hp113
        rw [wi_n (by omega) (by omega) (by omega)]
        refine jj_if_eq F (tgt := 123) dX9_isInLease_116 (by decide) (fun h116 => ?_) (fun h116 => ?_)
        · refine jj_iconst F (v := nI 0) dX9_isInLease_123 (by decide) ?_
          refine ret _ _ _ _ dX9_isInLease_124 (nar_z (Or.inl rfl)) ⟨b2i_f ?_, rfl⟩
          first
          | (rw [rect_gg hx hy, van_f h78]; rfl)
          | (rw [rect_gg hx hy, van_f h116, Bool.and_false])
        · refine jj_iconst F (v := nI 1) dX9_isInLease_119 (by decide) ?_
          refine jj_goto F (tgt := 124) dX9_isInLease_120 (by decide) ?_
          refine ret _ _ _ _ dX9_isInLease_124 (nar_z (Or.inr rfl)) ⟨b2i_t ?_, rfl⟩
          rw [rect_gg hx hy, van_t h78, van_t h116]
          rfl
theorem exB_s1 {p : Nat → Bool} {i : Nat} (h : exB i p = true) : exB (i + 1) p = true := by simp [exB, h]
theorem exB_s0 {p : Nat → Bool} {i : Nat} (h : exB i p = false) (h2 : p i = false) : exB (i + 1) p = false := by simp [exB, h, h2]
theorem exB_s2 {p : Nat → Bool} {i : Nat} (h2 : p i = true) : exB (i + 1) p = true := by simp [exB, h2]
set_option maxRecDepth 100000 in
set_option maxHeartbeats 1000000 in
theorem c_X9_isClosed {l : Launch} {E : Ee} {M : Mm} {q : Nat} {us fa la : Nat → Nat} (hq : M.1 478 13 = nI q) (h6 : q ≤ 6) (hlz : ∀ j, j < q → M.1 488 j = nI (us j) ∧ M.1 489 j = nI (fa j) ∧ M.1 490 j = nI (la j) ∧ us j < 5 ∧ fa j < 256 ∧ la j < 256) {x : Int32} {c : Nat} (hc : c < 256) : CtI l E yX9_isClosed (.code yX9_isClosed cX9_isClosed 5 (some .boolean) :: gl) ({ frames := 2, cells := 0, slots := 0, locals := 49 } : Room) M [.ref (E.2.2 478), .int x, .int (nI c)] 0 0 (fun r M2 => r = b2i (exB q (fun j => !decide (M.1 488 j = x) && rect (fa j) (la j) c)) ∧ M2 = M) := by
  refine ctI_of (L0 := [some (.ref (E.2.2 478)), some (.int x), some (.int (nI c)), none, none]) (by decide) rfl (Nat.le_of_ble_eq_true rfl) rfl ?_
  intro Z hl hE hnl F ret
  subst hE
  have in_X9 : ∀ w ∈ u_ws RX9 TX9 33, w ∈ (.code yX9_isClosed cX9_isClosed 5 (some .boolean) :: gl) := fun w h => List.mem_cons_of_mem _ (lay_X9 w h)
  have g39 : FG Z 39 9 14 := fg_mk F (C := RX9) (T := TX9) (N := 33) in_X9 rfl (by decide) rfl (List.mem_cons_of_mem _ fk_X9_39)
  have g136 : FG Z 136 9 13 := fg_mk F (C := RX9) (T := TX9) (N := 33) in_X9 rfl (by decide) rfl (List.mem_cons_of_mem _ fk_X9_136)
  have kM := kd_M
  have k479 := kd_479
  have k480 := kd_480
  have k481 := kd_481
  have k482 := kd_482
  have k483 := kd_483
  have k484 := kd_484
  have k485 := kd_485
  have k486 := kd_486
  have k487 := kd_487
  have k488 := kd_488
  have k489 := kd_489
  have k490 := kd_490
  have k491 := kd_491
  have k492 := kd_492
  have k493 := kd_493
  have k494 := kd_494
  have k495 := kd_495
  have k496 := kd_496
  have k497 := kd_497
  have k498 := kd_498
  have k499 := kd_499
  have k500 := kd_500
  have k501 := kd_501
  have k502 := kd_502
  have k503 := kd_503
  have lo : ∀ i, i ≤ q → JJ Z (0, 0) (M) 5 [some (.ref ((zE Z).2.2 478)), some (.int x), some (.int (nI c)), some (.int (b2i (exB i (fun j => !decide (M.1 488 j = x) && rect (fa j) (la j) c)))), some (.int (nI i))] [] := by
    refine jj_loop (q) ?_ ?_
    · refine jj_iload F dX9_isClosed_5 rfl ?_
      refine jj_aload_n F dX9_isClosed_7 rfl ?_
      refine jj_geti F g136 (by assumption) (by rfl) dX9_isClosed_8 ?_
      rw [hq]
      refine jj_icmp_ge F (tgt := 51) dX9_isClosed_11 (by decide) (fun _ => ?_) (fun h9 => absurd (nI_le (by omega) (by omega)) h9)
      refine jj_iload_n F dX9_isClosed_51 rfl ?_
      exact ret _ _ _ _ dX9_isClosed_52 (nar_z (b2i_01 _)) ⟨rfl, rfl⟩
    · intro i hi ih
      refine jj_iload F dX9_isClosed_5 rfl ?_
      refine jj_aload_n F dX9_isClosed_7 rfl ?_
      refine jj_geti F g136 (by assumption) (by rfl) dX9_isClosed_8 ?_
      rw [hq]
      refine jj_icmp_ge F (tgt := 51) dX9_isClosed_11 (by decide) (fun h9 => absurd h9 (nI_ge (by omega) (by omega))) (fun _ => ?_)
      refine jj_iload_n F dX9_isClosed_14 rfl ?_
      refine jj_if_ne F (tgt := 39) dX9_isClosed_15 (by decide) (fun h15 => ?_) (fun h15 => ?_)
      · refine jj_iconst F (v := nI 1) dX9_isClosed_39 (by decide) ?_
        refine jj_goto F (tgt := 44) dX9_isClosed_40 (by decide) ?_
        refine jj_istore_n F dX9_isClosed_44 (by rw [hnl]; decide) ?_
        dsimp only [lq_st, lq_clr, lq_no]
        refine jj_iinc F dX9_isClosed_45 rfl (by first | exact iinc1 _ | rfl) (by rw [hnl]; decide) ?_
        dsimp only [lq_st, lq_clr, lq_no]
        refine jj_goto F (tgt := 5) dX9_isClosed_48 (by decide) ?_
        refine jj_eqL ?_ ih
        first
        | (rw [show exB (i + 1) (fun j => !decide (M.1 488 j = x) && rect (fa j) (la j) c) = true from exB_s1 (van_t h15)]; rfl)
        | (have z : M.1 488 i = x := h26; rw [show exB (i + 1) (fun j => !decide (M.1 488 j = x) && rect (fa j) (la j) c) = false from exB_s0 (van_f h15) (by simp [z])]; rfl)
        | (have z := van_f h36; rw [show exB (i + 1) (fun j => !decide (M.1 488 j = x) && rect (fa j) (la j) c) = false from exB_s0 (van_f h15) (by simp [z])]; rfl)
        | (rw [show exB (i + 1) (fun j => !decide (M.1 488 j = x) && rect (fa j) (la j) c) = true from exB_s2 (by simp [h26, van_t h36]; done)]; rfl)
      · refine jj_aload_n F dX9_isClosed_18 rfl ?_
        refine jj_getr F g39 (by assumption) (by rfl) dX9_isClosed_19 ?_
        refine jj_iload F dX9_isClosed_22 rfl ?_
        refine jj_iald F (by assumption) rfl (by omega) dX9_isClosed_24 ?_
        refine jj_iload_n F dX9_isClosed_25 rfl ?_
        refine jj_icmp_eq F (tgt := 43) dX9_isClosed_26 (by decide) (fun h26 => ?_) (fun h26 => ?_)
        · refine jj_iconst F (v := nI 0) dX9_isClosed_43 (by decide) ?_
          refine jj_istore_n F dX9_isClosed_44 (by rw [hnl]; decide) ?_
          dsimp only [lq_st, lq_clr, lq_no]
          refine jj_iinc F dX9_isClosed_45 rfl (by first | exact iinc1 _ | rfl) (by rw [hnl]; decide) ?_
          dsimp only [lq_st, lq_clr, lq_no]
          refine jj_goto F (tgt := 5) dX9_isClosed_48 (by decide) ?_
          refine jj_eqL ?_ ih
          first
          | (rw [show exB (i + 1) (fun j => !decide (M.1 488 j = x) && rect (fa j) (la j) c) = true from exB_s1 (van_t h15)]; rfl)
          | (have z : M.1 488 i = x := h26; rw [show exB (i + 1) (fun j => !decide (M.1 488 j = x) && rect (fa j) (la j) c) = false from exB_s0 (van_f h15) (by simp [z])]; rfl)
          | (have z := van_f h36; rw [show exB (i + 1) (fun j => !decide (M.1 488 j = x) && rect (fa j) (la j) c) = false from exB_s0 (van_f h15) (by simp [z])]; rfl)
          | (rw [show exB (i + 1) (fun j => !decide (M.1 488 j = x) && rect (fa j) (la j) c) = true from exB_s2 (by simp [h26, van_t h36]; done)]; rfl)
        · refine jj_aload_n F dX9_isClosed_29 rfl ?_
          refine jj_iload F dX9_isClosed_30 rfl ?_
          refine jj_iload_n F dX9_isClosed_32 rfl ?_
          refine jj_callVi (na := 2) F (c_X9_isInLease (by omega) (hlz i hi).2.1 (hlz i hi).2.2.1 (hlz i hi).2.2.2.2.1 (hlz i hi).2.2.2.2.2 hc) (gl_V mk_X9_167 vw_X9_isInLease) rfl rfl rfl (by decide +kernel) ⟨Nat.le_of_ble_eq_true rfl, Nat.le_of_ble_eq_true rfl⟩ (by assumption) rfl rfl rfl (Nat.le_of_ble_eq_true rfl) ⟨Nat.le_of_ble_eq_true rfl, Nat.le_of_ble_eq_true rfl⟩ dX9_isClosed_33 (fun r9 M9 hp9 => ?_)
          obtain ⟨rfl, rfl⟩ := symm2 hp9
          refine jj_if_eq F (tgt := 43) dX9_isClosed_36 (by decide) (fun h36 => ?_) (fun h36 => ?_)
          · refine jj_iconst F (v := nI 0) dX9_isClosed_43 (by decide) ?_
            refine jj_istore_n F dX9_isClosed_44 (by rw [hnl]; decide) ?_
            dsimp only [lq_st, lq_clr, lq_no]
            refine jj_iinc F dX9_isClosed_45 rfl (by first | exact iinc1 _ | rfl) (by rw [hnl]; decide) ?_
            dsimp only [lq_st, lq_clr, lq_no]
            refine jj_goto F (tgt := 5) dX9_isClosed_48 (by decide) ?_
            refine jj_eqL ?_ ih
            first
            | (rw [show exB (i + 1) (fun j => !decide (M.1 488 j = x) && rect (fa j) (la j) c) = true from exB_s1 (van_t h15)]; rfl)
            | (have z : M.1 488 i = x := h26; rw [show exB (i + 1) (fun j => !decide (M.1 488 j = x) && rect (fa j) (la j) c) = false from exB_s0 (van_f h15) (by simp [z])]; rfl)
            | (have z := van_f h36; rw [show exB (i + 1) (fun j => !decide (M.1 488 j = x) && rect (fa j) (la j) c) = false from exB_s0 (van_f h15) (by simp [z])]; rfl)
            | (rw [show exB (i + 1) (fun j => !decide (M.1 488 j = x) && rect (fa j) (la j) c) = true from exB_s2 (by simp [h26, van_t h36]; done)]; rfl)
          · refine jj_iconst F (v := nI 1) dX9_isClosed_39 (by decide) ?_
            refine jj_goto F (tgt := 44) dX9_isClosed_40 (by decide) ?_
            refine jj_istore_n F dX9_isClosed_44 (by rw [hnl]; decide) ?_
            dsimp only [lq_st, lq_clr, lq_no]
            refine jj_iinc F dX9_isClosed_45 rfl (by first | exact iinc1 _ | rfl) (by rw [hnl]; decide) ?_
            dsimp only [lq_st, lq_clr, lq_no]
            refine jj_goto F (tgt := 5) dX9_isClosed_48 (by decide) ?_
            refine jj_eqL ?_ ih
            first
            | (rw [show exB (i + 1) (fun j => !decide (M.1 488 j = x) && rect (fa j) (la j) c) = true from exB_s1 (van_t h15)]; rfl)
            | (have z : M.1 488 i = x := h26; rw [show exB (i + 1) (fun j => !decide (M.1 488 j = x) && rect (fa j) (la j) c) = false from exB_s0 (van_f h15) (by simp [z])]; rfl)
            | (have z := van_f h36; rw [show exB (i + 1) (fun j => !decide (M.1 488 j = x) && rect (fa j) (la j) c) = false from exB_s0 (van_f h15) (by simp [z])]; rfl)
            | (rw [show exB (i + 1) (fun j => !decide (M.1 488 j = x) && rect (fa j) (la j) c) = true from exB_s2 (by simp [h26, van_t h36]; done)]; rfl)
  refine jj_iconst F (v := nI 0) dX9_isClosed_0 (by decide) ?_
  refine jj_istore_n F dX9_isClosed_1 (by rw [hnl]; decide) ?_
  dsimp only [lq_st, lq_clr, lq_no]
  refine jj_iconst F (v := nI 0) dX9_isClosed_2 (by decide) ?_
  refine jj_istore F dX9_isClosed_3 (by rw [hnl]; decide) ?_
  dsimp only [lq_st, lq_clr, lq_no]
  exact lo 0 (by omega)
def hoF (M : Mm) (fa la : Nat → Nat) (c : Nat) : Nat → Int32
  | 0 => -1
  | i + 1 => if rect (fa i) (la i) c = true ∧ (hoF M fa la c i = -1 ∨ M.1 488 i < hoF M fa la c i) then M.1 488 i else hoF M fa la c i
theorem hoF_s {M : Mm} {fa la : Nat → Nat} {c i : Nat} : hoF M fa la c (i + 1) = if rect (fa i) (la i) c = true ∧ (hoF M fa la c i = -1 ∨ M.1 488 i < hoF M fa la c i) then M.1 488 i else hoF M fa la c i := rfl
theorem less4e (a b c d e : Option Value) : ∀ (i : Nat) (v : Value), ([a, b, c, d, none] : List (Option Value))[i]? = some (some v) → ([a, b, c, d, e] : List (Option Value))[i]? = some (some v)
  | 0, _, h => h
  | 1, _, h => h
  | 2, _, h => h
  | 3, _, h => h
  | 4, _, h => by simp at h
  | n + 5, _, h => by simp at h
set_option maxRecDepth 100000 in
set_option maxHeartbeats 1000000 in
theorem c_X9_holderOf {l : Launch} {E : Ee} {M : Mm} {q : Nat} {us fa la : Nat → Nat} (hq : M.1 478 13 = nI q) (h6 : q ≤ 6) (hlz : ∀ j, j < q → M.1 488 j = nI (us j) ∧ M.1 489 j = nI (fa j) ∧ M.1 490 j = nI (la j) ∧ us j < 5 ∧ fa j < 256 ∧ la j < 256) {c : Nat} (hc : c < 256) : CtI l E yX9_holderOf (.code yX9_holderOf cX9_holderOf 5 (some .int) :: gl) ({ frames := 2, cells := 0, slots := 0, locals := 49 } : Room) M [.ref (E.2.2 478), .int (nI c)] 0 0 (fun r M2 => r = hoF M fa la c q ∧ M2 = M) := by
  refine ctI_of (L0 := [some (.ref (E.2.2 478)), some (.int (nI c)), none, none, none]) (by decide) rfl (Nat.le_of_ble_eq_true rfl) rfl ?_
  intro Z hl hE hnl F ret
  subst hE
  have in_X9 : ∀ w ∈ u_ws RX9 TX9 33, w ∈ (.code yX9_holderOf cX9_holderOf 5 (some .int) :: gl) := fun w h => List.mem_cons_of_mem _ (lay_X9 w h)
  have g39 : FG Z 39 9 14 := fg_mk F (C := RX9) (T := TX9) (N := 33) in_X9 rfl (by decide) rfl (List.mem_cons_of_mem _ fk_X9_39)
  have g136 : FG Z 136 9 13 := fg_mk F (C := RX9) (T := TX9) (N := 33) in_X9 rfl (by decide) rfl (List.mem_cons_of_mem _ fk_X9_136)
  have kM := kd_M
  have k479 := kd_479
  have k480 := kd_480
  have k481 := kd_481
  have k482 := kd_482
  have k483 := kd_483
  have k484 := kd_484
  have k485 := kd_485
  have k486 := kd_486
  have k487 := kd_487
  have k488 := kd_488
  have k489 := kd_489
  have k490 := kd_490
  have k491 := kd_491
  have k492 := kd_492
  have k493 := kd_493
  have k494 := kd_494
  have k495 := kd_495
  have k496 := kd_496
  have k497 := kd_497
  have k498 := kd_498
  have k499 := kd_499
  have k500 := kd_500
  have k501 := kd_501
  have k502 := kd_502
  have k503 := kd_503
  have lo : ∀ i, i ≤ q → JJ Z (0, 0) (M) 4 [some (.ref ((zE Z).2.2 478)), some (.int (nI c)), some (.int (hoF M fa la c i)), some (.int (nI i)), none] [] := by
    refine jj_loop (q) ?_ ?_
    · refine jj_iload_n F dX9_holderOf_4 rfl ?_
      refine jj_aload_n F dX9_holderOf_5 rfl ?_
      refine jj_geti F g136 (by assumption) (by rfl) dX9_holderOf_6 ?_
      rw [hq]
      refine jj_icmp_ge F (tgt := 65) dX9_holderOf_9 (by decide) (fun _ => ?_) (fun h9 => absurd (nI_le (by omega) (by omega)) h9)
      refine jj_iload_n F dX9_holderOf_65 rfl ?_
      exact ret _ _ _ _ dX9_holderOf_66 rfl ⟨rfl, rfl⟩
    · intro i hi ih
      refine jj_iload_n F dX9_holderOf_4 rfl ?_
      refine jj_aload_n F dX9_holderOf_5 rfl ?_
      refine jj_geti F g136 (by assumption) (by rfl) dX9_holderOf_6 ?_
      rw [hq]
      refine jj_icmp_ge F (tgt := 65) dX9_holderOf_9 (by decide) (fun h9 => absurd h9 (nI_ge (by omega) (by omega))) (fun _ => ?_)
      refine jj_aload_n F dX9_holderOf_12 rfl ?_
      refine jj_iload_n F dX9_holderOf_13 rfl ?_
      refine jj_iload_n F dX9_holderOf_14 rfl ?_
      refine jj_callVi (na := 2) F (c_X9_isInLease (by omega) (hlz i hi).2.1 (hlz i hi).2.2.1 (hlz i hi).2.2.2.2.1 (hlz i hi).2.2.2.2.2 hc) (gl_V mk_X9_167 vw_X9_isInLease) rfl rfl rfl (by decide +kernel) ⟨Nat.le_of_ble_eq_true rfl, Nat.le_of_ble_eq_true rfl⟩ (by assumption) rfl rfl rfl (Nat.le_of_ble_eq_true rfl) ⟨Nat.le_of_ble_eq_true rfl, Nat.le_of_ble_eq_true rfl⟩ dX9_holderOf_15 (fun r9 M9 hp9 => ?_)
      obtain ⟨rfl, rfl⟩ := symm2 hp9
      refine jj_if_eq F (tgt := 40) dX9_holderOf_18 (by decide) (fun h18 => ?_) (fun h18 => ?_)
      · refine jj_iconst F (v := nI 0) dX9_holderOf_40 (by decide) ?_
        refine jj_istore F dX9_holderOf_41 (by rw [hnl]; decide) ?_
        dsimp only [lq_st, lq_clr, lq_no]
        refine jj_iload F dX9_holderOf_43 rfl ?_
        refine jj_if_eq F (tgt := 57) dX9_holderOf_45 (by decide) (fun h45 => ?_) (fun h45 => ?_)
        · refine jj_iload_n F dX9_holderOf_57 rfl ?_
          refine jj_istore_n F dX9_holderOf_58 (by rw [hnl]; decide) ?_
          dsimp only [lq_st, lq_clr, lq_no]
          refine jj_iinc F dX9_holderOf_59 rfl (by first | exact iinc1 _ | rfl) (by rw [hnl]; decide) ?_
          dsimp only [lq_st, lq_clr, lq_no]
          refine jj_goto F (tgt := 4) dX9_holderOf_62 (by decide) ?_
          refine jj_less (L2 := [some (.ref ((zE Z).2.2 478)), some (.int (nI c)), some (.int (hoF M fa la c (i + 1))), some (.int (nI (i + 1))), none]) ?_ ih
          rw [hoF_s]
          first
          | exact absurd h45 (by decide)
          | exact absurd (by decide) h45
          | (have z := van_f h18; rw [if_neg (fun w => by rw [z] at w; cases w.1)]; exact less4e _ _ _ _ _)
          | (have z : rect (fa i) (la i) c = true ∧ (hoF M fa la c i = -1 ∨ M.1 488 i < hoF M fa la c i) := ⟨van_t h18, Or.inl h23⟩; rw [if_pos z]; exact less4e _ _ _ _ _)
          | (have z : ¬ (rect (fa i) (la i) c = true ∧ (hoF M fa la c i = -1 ∨ M.1 488 i < hoF M fa la c i)) := (fun z => by rcases z.2 with y | y; exact h23 y; exact i32_le_nlt h33 y); rw [if_neg z]; exact less4e _ _ _ _ _)
          | (have z : rect (fa i) (la i) c = true ∧ (hoF M fa la c i = -1 ∨ M.1 488 i < hoF M fa la c i) := ⟨van_t h18, Or.inr (i32_nle h33)⟩; rw [if_pos z]; exact less4e _ _ _ _ _)
        · refine jj_aload_n F dX9_holderOf_48 rfl ?_
          refine jj_getr F g39 (by assumption) (by rfl) dX9_holderOf_49 ?_
          refine jj_iload_n F dX9_holderOf_52 rfl ?_
          refine jj_iald F (by assumption) rfl (by omega) dX9_holderOf_53 ?_
          refine jj_goto F (tgt := 58) dX9_holderOf_54 (by decide) ?_
          refine jj_istore_n F dX9_holderOf_58 (by rw [hnl]; decide) ?_
          dsimp only [lq_st, lq_clr, lq_no]
          refine jj_iinc F dX9_holderOf_59 rfl (by first | exact iinc1 _ | rfl) (by rw [hnl]; decide) ?_
          dsimp only [lq_st, lq_clr, lq_no]
          refine jj_goto F (tgt := 4) dX9_holderOf_62 (by decide) ?_
          refine jj_less (L2 := [some (.ref ((zE Z).2.2 478)), some (.int (nI c)), some (.int (hoF M fa la c (i + 1))), some (.int (nI (i + 1))), none]) ?_ ih
          rw [hoF_s]
          first
          | exact absurd h45 (by decide)
          | exact absurd (by decide) h45
          | (have z := van_f h18; rw [if_neg (fun w => by rw [z] at w; cases w.1)]; exact less4e _ _ _ _ _)
          | (have z : rect (fa i) (la i) c = true ∧ (hoF M fa la c i = -1 ∨ M.1 488 i < hoF M fa la c i) := ⟨van_t h18, Or.inl h23⟩; rw [if_pos z]; exact less4e _ _ _ _ _)
          | (have z : ¬ (rect (fa i) (la i) c = true ∧ (hoF M fa la c i = -1 ∨ M.1 488 i < hoF M fa la c i)) := (fun z => by rcases z.2 with y | y; exact h23 y; exact i32_le_nlt h33 y); rw [if_neg z]; exact less4e _ _ _ _ _)
          | (have z : rect (fa i) (la i) c = true ∧ (hoF M fa la c i = -1 ∨ M.1 488 i < hoF M fa la c i) := ⟨van_t h18, Or.inr (i32_nle h33)⟩; rw [if_pos z]; exact less4e _ _ _ _ _)
      · refine jj_iload_n F dX9_holderOf_21 rfl ?_
        refine jj_iconst F (v := -1) dX9_holderOf_22 (by decide) ?_
        refine jj_icmp_eq F (tgt := 36) dX9_holderOf_23 (by decide) (fun h23 => ?_) (fun h23 => ?_)
        · refine jj_iconst F (v := nI 1) dX9_holderOf_36 (by decide) ?_
          refine jj_goto F (tgt := 41) dX9_holderOf_37 (by decide) ?_
          refine jj_istore F dX9_holderOf_41 (by rw [hnl]; decide) ?_
          dsimp only [lq_st, lq_clr, lq_no]
          refine jj_iload F dX9_holderOf_43 rfl ?_
          refine jj_if_eq F (tgt := 57) dX9_holderOf_45 (by decide) (fun h45 => ?_) (fun h45 => ?_)
          · refine jj_iload_n F dX9_holderOf_57 rfl ?_
            refine jj_istore_n F dX9_holderOf_58 (by rw [hnl]; decide) ?_
            dsimp only [lq_st, lq_clr, lq_no]
            refine jj_iinc F dX9_holderOf_59 rfl (by first | exact iinc1 _ | rfl) (by rw [hnl]; decide) ?_
            dsimp only [lq_st, lq_clr, lq_no]
            refine jj_goto F (tgt := 4) dX9_holderOf_62 (by decide) ?_
            refine jj_less (L2 := [some (.ref ((zE Z).2.2 478)), some (.int (nI c)), some (.int (hoF M fa la c (i + 1))), some (.int (nI (i + 1))), none]) ?_ ih
            rw [hoF_s]
            first
            | exact absurd h45 (by decide)
            | exact absurd (by decide) h45
            | (have z := van_f h18; rw [if_neg (fun w => by rw [z] at w; cases w.1)]; exact less4e _ _ _ _ _)
            | (have z : rect (fa i) (la i) c = true ∧ (hoF M fa la c i = -1 ∨ M.1 488 i < hoF M fa la c i) := ⟨van_t h18, Or.inl h23⟩; rw [if_pos z]; exact less4e _ _ _ _ _)
            | (have z : ¬ (rect (fa i) (la i) c = true ∧ (hoF M fa la c i = -1 ∨ M.1 488 i < hoF M fa la c i)) := (fun z => by rcases z.2 with y | y; exact h23 y; exact i32_le_nlt h33 y); rw [if_neg z]; exact less4e _ _ _ _ _)
            | (have z : rect (fa i) (la i) c = true ∧ (hoF M fa la c i = -1 ∨ M.1 488 i < hoF M fa la c i) := ⟨van_t h18, Or.inr (i32_nle h33)⟩; rw [if_pos z]; exact less4e _ _ _ _ _)
          · refine jj_aload_n F dX9_holderOf_48 rfl ?_
            refine jj_getr F g39 (by assumption) (by rfl) dX9_holderOf_49 ?_
            refine jj_iload_n F dX9_holderOf_52 rfl ?_
            refine jj_iald F (by assumption) rfl (by omega) dX9_holderOf_53 ?_
            refine jj_goto F (tgt := 58) dX9_holderOf_54 (by decide) ?_
            refine jj_istore_n F dX9_holderOf_58 (by rw [hnl]; decide) ?_
            dsimp only [lq_st, lq_clr, lq_no]
            refine jj_iinc F dX9_holderOf_59 rfl (by first | exact iinc1 _ | rfl) (by rw [hnl]; decide) ?_
            dsimp only [lq_st, lq_clr, lq_no]
            refine jj_goto F (tgt := 4) dX9_holderOf_62 (by decide) ?_
            refine jj_less (L2 := [some (.ref ((zE Z).2.2 478)), some (.int (nI c)), some (.int (hoF M fa la c (i + 1))), some (.int (nI (i + 1))), none]) ?_ ih
            rw [hoF_s]
            first
            | exact absurd h45 (by decide)
            | exact absurd (by decide) h45
            | (have z := van_f h18; rw [if_neg (fun w => by rw [z] at w; cases w.1)]; exact less4e _ _ _ _ _)
            | (have z : rect (fa i) (la i) c = true ∧ (hoF M fa la c i = -1 ∨ M.1 488 i < hoF M fa la c i) := ⟨van_t h18, Or.inl h23⟩; rw [if_pos z]; exact less4e _ _ _ _ _)
            | (have z : ¬ (rect (fa i) (la i) c = true ∧ (hoF M fa la c i = -1 ∨ M.1 488 i < hoF M fa la c i)) := (fun z => by rcases z.2 with y | y; exact h23 y; exact i32_le_nlt h33 y); rw [if_neg z]; exact less4e _ _ _ _ _)
            | (have z : rect (fa i) (la i) c = true ∧ (hoF M fa la c i = -1 ∨ M.1 488 i < hoF M fa la c i) := ⟨van_t h18, Or.inr (i32_nle h33)⟩; rw [if_pos z]; exact less4e _ _ _ _ _)
        · refine jj_aload_n F dX9_holderOf_26 rfl ?_
          refine jj_getr F g39 (by assumption) (by rfl) dX9_holderOf_27 ?_
          refine jj_iload_n F dX9_holderOf_30 rfl ?_
          refine jj_iald F (by assumption) rfl (by omega) dX9_holderOf_31 ?_
          refine jj_iload_n F dX9_holderOf_32 rfl ?_
          refine jj_icmp_ge F (tgt := 40) dX9_holderOf_33 (by decide) (fun h33 => ?_) (fun h33 => ?_)
          · refine jj_iconst F (v := nI 0) dX9_holderOf_40 (by decide) ?_
            refine jj_istore F dX9_holderOf_41 (by rw [hnl]; decide) ?_
            dsimp only [lq_st, lq_clr, lq_no]
            refine jj_iload F dX9_holderOf_43 rfl ?_
            refine jj_if_eq F (tgt := 57) dX9_holderOf_45 (by decide) (fun h45 => ?_) (fun h45 => ?_)
            · refine jj_iload_n F dX9_holderOf_57 rfl ?_
              refine jj_istore_n F dX9_holderOf_58 (by rw [hnl]; decide) ?_
              dsimp only [lq_st, lq_clr, lq_no]
              refine jj_iinc F dX9_holderOf_59 rfl (by first | exact iinc1 _ | rfl) (by rw [hnl]; decide) ?_
              dsimp only [lq_st, lq_clr, lq_no]
              refine jj_goto F (tgt := 4) dX9_holderOf_62 (by decide) ?_
              refine jj_less (L2 := [some (.ref ((zE Z).2.2 478)), some (.int (nI c)), some (.int (hoF M fa la c (i + 1))), some (.int (nI (i + 1))), none]) ?_ ih
              rw [hoF_s]
              first
              | exact absurd h45 (by decide)
              | exact absurd (by decide) h45
              | (have z := van_f h18; rw [if_neg (fun w => by rw [z] at w; cases w.1)]; exact less4e _ _ _ _ _)
              | (have z : rect (fa i) (la i) c = true ∧ (hoF M fa la c i = -1 ∨ M.1 488 i < hoF M fa la c i) := ⟨van_t h18, Or.inl h23⟩; rw [if_pos z]; exact less4e _ _ _ _ _)
              | (have z : ¬ (rect (fa i) (la i) c = true ∧ (hoF M fa la c i = -1 ∨ M.1 488 i < hoF M fa la c i)) := (fun z => by rcases z.2 with y | y; exact h23 y; exact i32_le_nlt h33 y); rw [if_neg z]; exact less4e _ _ _ _ _)
              | (have z : rect (fa i) (la i) c = true ∧ (hoF M fa la c i = -1 ∨ M.1 488 i < hoF M fa la c i) := ⟨van_t h18, Or.inr (i32_nle h33)⟩; rw [if_pos z]; exact less4e _ _ _ _ _)
            · refine jj_aload_n F dX9_holderOf_48 rfl ?_
              refine jj_getr F g39 (by assumption) (by rfl) dX9_holderOf_49 ?_
              refine jj_iload_n F dX9_holderOf_52 rfl ?_
              refine jj_iald F (by assumption) rfl (by omega) dX9_holderOf_53 ?_
              refine jj_goto F (tgt := 58) dX9_holderOf_54 (by decide) ?_
              refine jj_istore_n F dX9_holderOf_58 (by rw [hnl]; decide) ?_
              dsimp only [lq_st, lq_clr, lq_no]
              refine jj_iinc F dX9_holderOf_59 rfl (by first | exact iinc1 _ | rfl) (by rw [hnl]; decide) ?_
              dsimp only [lq_st, lq_clr, lq_no]
              refine jj_goto F (tgt := 4) dX9_holderOf_62 (by decide) ?_
              refine jj_less (L2 := [some (.ref ((zE Z).2.2 478)), some (.int (nI c)), some (.int (hoF M fa la c (i + 1))), some (.int (nI (i + 1))), none]) ?_ ih
              rw [hoF_s]
              first
              | exact absurd h45 (by decide)
              | exact absurd (by decide) h45
              | (have z := van_f h18; rw [if_neg (fun w => by rw [z] at w; cases w.1)]; exact less4e _ _ _ _ _)
              | (have z : rect (fa i) (la i) c = true ∧ (hoF M fa la c i = -1 ∨ M.1 488 i < hoF M fa la c i) := ⟨van_t h18, Or.inl h23⟩; rw [if_pos z]; exact less4e _ _ _ _ _)
              | (have z : ¬ (rect (fa i) (la i) c = true ∧ (hoF M fa la c i = -1 ∨ M.1 488 i < hoF M fa la c i)) := (fun z => by rcases z.2 with y | y; exact h23 y; exact i32_le_nlt h33 y); rw [if_neg z]; exact less4e _ _ _ _ _)
              | (have z : rect (fa i) (la i) c = true ∧ (hoF M fa la c i = -1 ∨ M.1 488 i < hoF M fa la c i) := ⟨van_t h18, Or.inr (i32_nle h33)⟩; rw [if_pos z]; exact less4e _ _ _ _ _)
          · refine jj_iconst F (v := nI 1) dX9_holderOf_36 (by decide) ?_
            refine jj_goto F (tgt := 41) dX9_holderOf_37 (by decide) ?_
            refine jj_istore F dX9_holderOf_41 (by rw [hnl]; decide) ?_
            dsimp only [lq_st, lq_clr, lq_no]
            refine jj_iload F dX9_holderOf_43 rfl ?_
            refine jj_if_eq F (tgt := 57) dX9_holderOf_45 (by decide) (fun h45 => ?_) (fun h45 => ?_)
            · refine jj_iload_n F dX9_holderOf_57 rfl ?_
              refine jj_istore_n F dX9_holderOf_58 (by rw [hnl]; decide) ?_
              dsimp only [lq_st, lq_clr, lq_no]
              refine jj_iinc F dX9_holderOf_59 rfl (by first | exact iinc1 _ | rfl) (by rw [hnl]; decide) ?_
              dsimp only [lq_st, lq_clr, lq_no]
              refine jj_goto F (tgt := 4) dX9_holderOf_62 (by decide) ?_
              refine jj_less (L2 := [some (.ref ((zE Z).2.2 478)), some (.int (nI c)), some (.int (hoF M fa la c (i + 1))), some (.int (nI (i + 1))), none]) ?_ ih
              rw [hoF_s]
              first
              | exact absurd h45 (by decide)
              | exact absurd (by decide) h45
              | (have z := van_f h18; rw [if_neg (fun w => by rw [z] at w; cases w.1)]; exact less4e _ _ _ _ _)
              | (have z : rect (fa i) (la i) c = true ∧ (hoF M fa la c i = -1 ∨ M.1 488 i < hoF M fa la c i) := ⟨van_t h18, Or.inl h23⟩; rw [if_pos z]; exact less4e _ _ _ _ _)
              | (have z : ¬ (rect (fa i) (la i) c = true ∧ (hoF M fa la c i = -1 ∨ M.1 488 i < hoF M fa la c i)) := (fun z => by rcases z.2 with y | y; exact h23 y; exact i32_le_nlt h33 y); rw [if_neg z]; exact less4e _ _ _ _ _)
              | (have z : rect (fa i) (la i) c = true ∧ (hoF M fa la c i = -1 ∨ M.1 488 i < hoF M fa la c i) := ⟨van_t h18, Or.inr (i32_nle h33)⟩; rw [if_pos z]; exact less4e _ _ _ _ _)
            · refine jj_aload_n F dX9_holderOf_48 rfl ?_
              refine jj_getr F g39 (by assumption) (by rfl) dX9_holderOf_49 ?_
              refine jj_iload_n F dX9_holderOf_52 rfl ?_
              refine jj_iald F (by assumption) rfl (by omega) dX9_holderOf_53 ?_
              refine jj_goto F (tgt := 58) dX9_holderOf_54 (by decide) ?_
              refine jj_istore_n F dX9_holderOf_58 (by rw [hnl]; decide) ?_
              dsimp only [lq_st, lq_clr, lq_no]
              refine jj_iinc F dX9_holderOf_59 rfl (by first | exact iinc1 _ | rfl) (by rw [hnl]; decide) ?_
              dsimp only [lq_st, lq_clr, lq_no]
              refine jj_goto F (tgt := 4) dX9_holderOf_62 (by decide) ?_
              refine jj_less (L2 := [some (.ref ((zE Z).2.2 478)), some (.int (nI c)), some (.int (hoF M fa la c (i + 1))), some (.int (nI (i + 1))), none]) ?_ ih
              rw [hoF_s]
              first
              | exact absurd h45 (by decide)
              | exact absurd (by decide) h45
              | (have z := van_f h18; rw [if_neg (fun w => by rw [z] at w; cases w.1)]; exact less4e _ _ _ _ _)
              | (have z : rect (fa i) (la i) c = true ∧ (hoF M fa la c i = -1 ∨ M.1 488 i < hoF M fa la c i) := ⟨van_t h18, Or.inl h23⟩; rw [if_pos z]; exact less4e _ _ _ _ _)
              | (have z : ¬ (rect (fa i) (la i) c = true ∧ (hoF M fa la c i = -1 ∨ M.1 488 i < hoF M fa la c i)) := (fun z => by rcases z.2 with y | y; exact h23 y; exact i32_le_nlt h33 y); rw [if_neg z]; exact less4e _ _ _ _ _)
              | (have z : rect (fa i) (la i) c = true ∧ (hoF M fa la c i = -1 ∨ M.1 488 i < hoF M fa la c i) := ⟨van_t h18, Or.inr (i32_nle h33)⟩; rw [if_pos z]; exact less4e _ _ _ _ _)
  refine jj_iconst F (v := -1) dX9_holderOf_0 (by decide) ?_
  refine jj_istore_n F dX9_holderOf_1 (by rw [hnl]; decide) ?_
  dsimp only [lq_st, lq_clr, lq_no]
  refine jj_iconst F (v := nI 0) dX9_holderOf_2 (by decide) ?_
  refine jj_istore_n F dX9_holderOf_3 (by rw [hnl]; decide) ?_
  dsimp only [lq_st, lq_clr, lq_no]
  exact lo 0 (by omega)
set_option maxRecDepth 100000 in
set_option maxHeartbeats 1000000 in
theorem c_X9_held {l : Launch} {E : Ee} {M : Mm} {q : Nat} {us fa la : Nat → Nat} (hq : M.1 478 13 = nI q) (h6 : q ≤ 6) (hlz : ∀ j, j < q → M.1 488 j = nI (us j) ∧ M.1 489 j = nI (fa j) ∧ M.1 490 j = nI (la j) ∧ us j < 5 ∧ fa j < 256 ∧ la j < 256) : CtI l E yX9_held (.code yX9_held cX9_held 3 (some .int) :: gl) ({ frames := 3, cells := 0, slots := 0, locals := 73 } : Room) M [.ref (E.2.2 478)] 0 0 (fun r M2 => r = nI (fb_ct (fun c => !decide (hoF M fa la c q = -1)) 256) ∧ M2 = M) := by
  refine ctI_of (L0 := [some (.ref (E.2.2 478)), none, none]) (by decide) rfl (Nat.le_of_ble_eq_true rfl) rfl ?_
  intro Z hl hE hnl F ret
  subst hE
  have kM := kd_M
  have k479 := kd_479
  have k480 := kd_480
  have k481 := kd_481
  have k482 := kd_482
  have k483 := kd_483
  have k484 := kd_484
  have k485 := kd_485
  have k486 := kd_486
  have k487 := kd_487
  have k488 := kd_488
  have k489 := kd_489
  have k490 := kd_490
  have k491 := kd_491
  have k492 := kd_492
  have k493 := kd_493
  have k494 := kd_494
  have k495 := kd_495
  have k496 := kd_496
  have k497 := kd_497
  have k498 := kd_498
  have k499 := kd_499
  have k500 := kd_500
  have k501 := kd_501
  have k502 := kd_502
  have k503 := kd_503
  have lo : ∀ i, i ≤ 256 → JJ Z (0, 0) (M) 4 [some (.ref ((zE Z).2.2 478)), some (.int (nI (fb_ct (fun c => !decide (hoF M fa la c q = -1)) i))), some (.int (nI i))] [] := by
    refine jj_loop (256) ?_ ?_
    · refine jj_iload_n F dX9_held_4 rfl ?_
      refine jj_sipush F (v := nI 256) dX9_held_5 (by decide) ?_
      refine jj_icmp_ge F (tgt := 34) dX9_held_8 (by decide) (fun _ => ?_) (fun h9 => absurd (nI_le (by omega) (by omega)) h9)
      refine jj_iload_n F dX9_held_34 rfl ?_
      exact ret _ _ _ _ dX9_held_35 rfl ⟨rfl, rfl⟩
    · intro i hi ih
      refine jj_iload_n F dX9_held_4 rfl ?_
      refine jj_sipush F (v := nI 256) dX9_held_5 (by decide) ?_
      refine jj_icmp_ge F (tgt := 34) dX9_held_8 (by decide) (fun h9 => absurd h9 (nI_ge (by omega) (by omega))) (fun _ => ?_)
      refine jj_iload_n F dX9_held_11 rfl ?_
      refine jj_aload_n F dX9_held_12 rfl ?_
      refine jj_iload_n F dX9_held_13 rfl ?_
      refine jj_callVi (na := 1) F (c_X9_holderOf hq h6 hlz hi) (gl_V mk_X9_241 vw_X9_holderOf) rfl rfl rfl (by decide +kernel) ⟨Nat.le_of_ble_eq_true rfl, Nat.le_of_ble_eq_true rfl⟩ (by assumption) rfl rfl rfl (Nat.le_of_ble_eq_true rfl) ⟨Nat.le_of_ble_eq_true rfl, Nat.le_of_ble_eq_true rfl⟩ dX9_held_14 (fun r9 M9 hp9 => ?_)
      obtain ⟨rfl, rfl⟩ := symm2 hp9
      refine jj_iconst F (v := -1) dX9_held_17 (by decide) ?_
      refine jj_icmp_ne F (tgt := 25) dX9_held_18 (by decide) (fun h18 => ?_) (fun h18 => ?_)
      · refine jj_iconst F (v := nI 1) dX9_held_25 (by decide) ?_
        refine jj_iadd F dX9_held_26 ?_
        refine jj_istore_n F dX9_held_27 (by rw [hnl]; decide) ?_
        dsimp only [lq_st, lq_clr, lq_no]
        refine jj_iinc F dX9_held_28 rfl (by first | exact iinc1 _ | rfl) (by rw [hnl]; decide) ?_
        dsimp only [lq_st, lq_clr, lq_no]
        refine jj_goto F (tgt := 4) dX9_held_31 (by decide) ?_
        refine jj_eqL ?_ ih
        rw [fb_ct_succ]
        first
        | (simp only [h18, Bool.not_true, Bool.not_false, Bool.true_and, Bool.and_true, Bool.false_and, Bool.and_false, decide_true, decide_false, Bool.false_eq_true, if_false, if_true, nI_add, Nat.add_zero]; done)
      · refine jj_iconst F (v := nI 0) dX9_held_21 (by decide) ?_
        refine jj_goto F (tgt := 26) dX9_held_22 (by decide) ?_
        refine jj_iadd F dX9_held_26 ?_
        refine jj_istore_n F dX9_held_27 (by rw [hnl]; decide) ?_
        dsimp only [lq_st, lq_clr, lq_no]
        refine jj_iinc F dX9_held_28 rfl (by first | exact iinc1 _ | rfl) (by rw [hnl]; decide) ?_
        dsimp only [lq_st, lq_clr, lq_no]
        refine jj_goto F (tgt := 4) dX9_held_31 (by decide) ?_
        refine jj_eqL ?_ ih
        rw [fb_ct_succ]
        first
        | (simp only [h18, Bool.not_true, Bool.not_false, Bool.true_and, Bool.and_true, Bool.false_and, Bool.and_false, decide_true, decide_false, Bool.false_eq_true, if_false, if_true, nI_add, Nat.add_zero]; done)
  refine jj_iconst F (v := nI 0) dX9_held_0 (by decide) ?_
  refine jj_istore_n F dX9_held_1 (by rw [hnl]; decide) ?_
  dsimp only [lq_st, lq_clr, lq_no]
  refine jj_iconst F (v := nI 0) dX9_held_2 (by decide) ?_
  refine jj_istore_n F dX9_held_3 (by rw [hnl]; decide) ?_
  dsimp only [lq_st, lq_clr, lq_no]
  exact lo 0 (by omega)
def coI (M : Mm) : Nat → Int32
  | 0 => nI 0
  | i + 1 => coI M i ||| (if M.1 499 i = -1 then nI 0 else nI 1 <<< (shF M i &&& 31))
set_option maxRecDepth 100000 in
set_option maxHeartbeats 1000000 in
theorem c_X9_colors {l : Launch} {E : Ee} {M : Mm} (hT : topsOk M) : CtI l E yX9_colors (.code yX9_colors cX9_colors 3 (some .int) :: gl) ({ frames := 1, cells := 0, slots := 0, locals := 23 } : Room) M [.ref (E.2.2 478)] 0 0 (fun r M2 => r = nI (fb_ct (bl (coI M 256).toInt64) 64) ∧ M2 = M) := by
  refine ctI_of (L0 := [some (.ref (E.2.2 478)), none, none]) (by decide) rfl (Nat.le_of_ble_eq_true rfl) rfl ?_
  intro Z hl hE hnl F ret
  subst hE
  have in_X9 : ∀ w ∈ u_ws RX9 TX9 33, w ∈ (.code yX9_colors cX9_colors 3 (some .int) :: gl) := fun w h => List.mem_cons_of_mem _ (lay_X9 w h)
  have g72 : FG Z 72 9 26 := fg_mk F (C := RX9) (T := TX9) (N := 33) in_X9 rfl (by decide) rfl (List.mem_cons_of_mem _ fk_X9_72)
  have kM := kd_M
  have k479 := kd_479
  have k480 := kd_480
  have k481 := kd_481
  have k482 := kd_482
  have k483 := kd_483
  have k484 := kd_484
  have k485 := kd_485
  have k486 := kd_486
  have k487 := kd_487
  have k488 := kd_488
  have k489 := kd_489
  have k490 := kd_490
  have k491 := kd_491
  have k492 := kd_492
  have k493 := kd_493
  have k494 := kd_494
  have k495 := kd_495
  have k496 := kd_496
  have k497 := kd_497
  have k498 := kd_498
  have k499 := kd_499
  have k500 := kd_500
  have k501 := kd_501
  have k502 := kd_502
  have k503 := kd_503
  have lo : ∀ i, i ≤ 256 → JJ Z (0, 0) (M) 4 [some (.ref ((zE Z).2.2 478)), some (.int (coI M i)), some (.int (nI i))] [] := by
    refine jj_loop (256) ?_ ?_
    · refine jj_iload_n F dX9_colors_4 rfl ?_
      refine jj_sipush F (v := nI 256) dX9_colors_5 (by decide) ?_
      refine jj_icmp_ge F (tgt := 41) dX9_colors_8 (by decide) (fun _ => ?_) (fun h9 => absurd (nI_le (by omega) (by omega)) h9)
      refine jj_iload_n F dX9_colors_41 rfl ?_
      refine jj_i2l F dX9_colors_42 ?_
      refine jj_callSi (na := 1) F c_X9_size (gl_S mk_X9_98 vw_X9_size) rfl rfl rfl (by decide +kernel) ⟨Nat.le_of_ble_eq_true rfl, Nat.le_of_ble_eq_true rfl⟩ rfl rfl (Nat.le_of_ble_eq_true rfl) ⟨Nat.le_of_ble_eq_true rfl, Nat.le_of_ble_eq_true rfl⟩ dX9_colors_43 (fun r43 M43 hp43 => ?_)
      obtain ⟨rfl, rfl⟩ := symm2 hp43
      refine ret _ _ _ _ dX9_colors_46 (by first | rfl | exact nar_z (by first | exact Or.inl rfl | exact Or.inr rfl | exact b2i_01 _ | assumption)) ?_
      exact ⟨rfl, rfl⟩
    · intro i hi ih
      refine jj_iload_n F dX9_colors_4 rfl ?_
      refine jj_sipush F (v := nI 256) dX9_colors_5 (by decide) ?_
      refine jj_icmp_ge F (tgt := 41) dX9_colors_8 (by decide) (fun h9 => absurd h9 (nI_ge (by omega) (by omega))) (fun _ => ?_)
      refine jj_iload_n F dX9_colors_11 rfl ?_
      refine jj_aload_n F dX9_colors_12 rfl ?_
      refine jj_getr F g72 (by assumption) (by rfl) dX9_colors_13 ?_
      refine jj_iload_n F dX9_colors_16 rfl ?_
      refine jj_iald F (by assumption) rfl (by omega) dX9_colors_17 ?_
      refine jj_iconst F (v := -1) dX9_colors_18 (by decide) ?_
      refine jj_icmp_ne F (tgt := 26) dX9_colors_19 (by decide) (fun h19 => ?_) (fun h19 => ?_)
      · refine jj_iconst F (v := nI 1) dX9_colors_26 (by decide) ?_
        refine jj_aload_n F dX9_colors_27 rfl ?_
        refine jj_iload_n F dX9_colors_28 rfl ?_
        refine jj_callVi (na := 1) F (c_X9_shown (by assumption) (by omega)) (gl_V mk_X9_132 vw_X9_shown) rfl rfl rfl (by decide +kernel) ⟨Nat.le_of_ble_eq_true rfl, Nat.le_of_ble_eq_true rfl⟩ (by assumption) rfl rfl rfl (Nat.le_of_ble_eq_true rfl) ⟨Nat.le_of_ble_eq_true rfl, Nat.le_of_ble_eq_true rfl⟩ dX9_colors_29 (fun r29 M29 hp29 => ?_)
        obtain ⟨rfl, rfl⟩ := symm2 hp29
        refine jj_ishl F dX9_colors_32 ?_
        refine jj_ior F dX9_colors_33 ?_
        refine jj_istore_n F dX9_colors_34 (by rw [hnl]; decide) ?_
        dsimp only [lq_st, lq_clr, lq_no]
        refine jj_iinc F dX9_colors_35 rfl (by first | exact iinc1 _ | rfl) (by rw [hnl]; decide) ?_
        dsimp only [lq_st, lq_clr, lq_no]
        refine jj_goto F (tgt := 4) dX9_colors_38 (by decide) ?_
        refine jj_eqL ?_ ih
        show _ = [_, some (Value.int (coI M i ||| _)), _]
        first
        | (rw [if_pos h19]; done)
        | (rw [if_neg h19]; done)
      · refine jj_iconst F (v := nI 0) dX9_colors_22 (by decide) ?_
        refine jj_goto F (tgt := 33) dX9_colors_23 (by decide) ?_
        refine jj_ior F dX9_colors_33 ?_
        refine jj_istore_n F dX9_colors_34 (by rw [hnl]; decide) ?_
        dsimp only [lq_st, lq_clr, lq_no]
        refine jj_iinc F dX9_colors_35 rfl (by first | exact iinc1 _ | rfl) (by rw [hnl]; decide) ?_
        dsimp only [lq_st, lq_clr, lq_no]
        refine jj_goto F (tgt := 4) dX9_colors_38 (by decide) ?_
        refine jj_eqL ?_ ih
        show _ = [_, some (Value.int (coI M i ||| _)), _]
        first
        | (rw [if_pos h19]; done)
        | (rw [if_neg h19]; done)
  refine jj_iconst F (v := nI 0) dX9_colors_0 (by decide) ?_
  refine jj_istore_n F dX9_colors_1 (by rw [hnl]; decide) ?_
  dsimp only [lq_st, lq_clr, lq_no]
  refine jj_iconst F (v := nI 0) dX9_colors_2 (by decide) ?_
  refine jj_istore_n F dX9_colors_3 (by rw [hnl]; decide) ?_
  dsimp only [lq_st, lq_clr, lq_no]
  exact lo 0 (by omega)
