set_option maxRecDepth 100000 in
set_option maxHeartbeats 1000000 in
theorem c_X9_layAt {l : Launch} {E : Ee} {M : Mm} {a : Ab} {W : Nat} (hM : RelM M a W) {t : Int32} : CtV l E yX9_layAt (.code yX9_layAt cX9_layAt 3 none :: gl) ({ frames := 3, cells := 0, slots := 0, locals := 73 } : Room) M [.ref (E.2.2 478), .int t] 0 0 (fun M2 => LayP M M2 a (a_ac a) (a_n a) t) := by
  refine ctV_of (L0 := [some (.ref (E.2.2 478)), some (.int t), none]) (by decide) rfl (Nat.le_of_ble_eq_true rfl) rfl ?_
  intro Z hl hE hnl F ret
  subst hE
  have in_X9 : ∀ w ∈ u_ws RX9 TX9 33, w ∈ (.code yX9_layAt cX9_layAt 3 none :: gl) := fun w h => List.mem_cons_of_mem _ (lay_X9 w h)
  have g28 : FG Z 28 9 9 := fg_mk F (C := RX9) (T := TX9) (N := 33) in_X9 rfl (by decide) rfl (List.mem_cons_of_mem _ fk_X9_28)
  have g69 : FG Z 69 9 25 := fg_mk F (C := RX9) (T := TX9) (N := 33) in_X9 rfl (by decide) rfl (List.mem_cons_of_mem _ fk_X9_69)
  have g95 : FG Z 95 9 2 := fg_mk F (C := RX9) (T := TX9) (N := 33) in_X9 rfl (by decide) rfl (List.mem_cons_of_mem _ fk_X9_95)
  obtain ⟨⟨h60, ht, htk, hn, hop, hac, hun, hopk, ⟨u0, hu1, hu2, hu3⟩, C, hC, hCa⟩, ⟨hlk, hll, hlz⟩, hK, ⟨hln, hl40, htx⟩, L0, hL0⟩ := id hM
  have kM := kd_M
  have k479 := kd_479
  have k480 := kd_480
  have k481 := kd_481
  have k482 := kd_482
  have k483 := kd_483
  have k484 := kd_484
  have k485 := kd_485
  have k486 := kd_486
  have k487 := kd_487
  have k488 := kd_488
  have k489 := kd_489
  have k490 := kd_490
  have k491 := kd_491
  have k492 := kd_492
  have k493 := kd_493
  have k494 := kd_494
  have k495 := kd_495
  have k496 := kd_496
  have k497 := kd_497
  have k498 := kd_498
  have k499 := kd_499
  have k500 := kd_500
  have k501 := kd_501
  have k502 := kd_502
  have k503 := kd_503
  have lo : ∀ i, i ≤ (a_n a) → JJ Z (0, 0) (wA M 498 (fl i (fun k => b2i (a_ac a k)) (M.1 498))) 2 [some (.ref ((zE Z).2.2 478)), some (.int t), some (.int (nI i))] [] := by
    refine jj_loop ((a_n a)) ?_ ?_
    · refine jj_iload_n F dX9_layAt_2 rfl ?_
      refine jj_aload_n F dX9_layAt_3 rfl ?_
      refine jj_geti F g95 (by assumption) (by rfl) dX9_layAt_4 ?_
      rw [wA_1n (by decide), hn]
      refine jj_icmp_ge F (tgt := 28) dX9_layAt_7 (by decide) (fun _ => ?_) (fun h9 => absurd (nI_le (by omega) (by omega)) h9)
      refine jj_aload_n F dX9_layAt_28 rfl ?_
      refine jj_aload_n F dX9_layAt_29 rfl ?_
      refine jj_geti F g95 (by assumption) (by rfl) dX9_layAt_30 ?_
      rw [wA_1n (by decide), hn]
      refine jj_callVv (na := 1) F (c_X9_layLeft (L := L0) (C := C) (M := wA M 498 (fl (a_n a) (fun k => b2i (a_ac a k)) (M.1 498))) hL0 hC h60) (gl_V mk_X9_119 vw_X9_layLeft) rfl rfl rfl (by decide +kernel) ⟨Nat.le_of_ble_eq_true rfl, Nat.le_of_ble_eq_true rfl⟩ (by assumption) rfl rfl rfl (Nat.le_of_ble_eq_true rfl) ⟨Nat.le_of_ble_eq_true rfl, Nat.le_of_ble_eq_true rfl⟩ dX9_layAt_33 (fun M33 hp33 => ?_)
      obtain rfl := hp33.symm
      refine jj_aload_n F dX9_layAt_36 rfl ?_
      refine jj_aload_n F dX9_layAt_37 rfl ?_
      refine jj_geti F g95 (by assumption) (by rfl) dX9_layAt_38 ?_
      rw [wL_1, wA_1n (by decide), hn]
      refine jj_iload_n F dX9_layAt_41 rfl ?_
      refine jj_callVv (na := 2) F (c_X9_layTop (wL_s _ _ _) h60) (gl_V mk_X9_122 vw_X9_layTop) rfl rfl rfl (by decide +kernel) ⟨Nat.le_of_ble_eq_true rfl, Nat.le_of_ble_eq_true rfl⟩ (by assumption) rfl rfl rfl (Nat.le_of_ble_eq_true rfl) ⟨Nat.le_of_ble_eq_true rfl, Nat.le_of_ble_eq_true rfl⟩ dX9_layAt_42 (fun M42 hp42 => ?_)
      obtain rfl := hp42.symm
      refine ret _ _ _ dX9_layAt_45 ?_
      refine ⟨_, _, _, rfl, fun i hi => fl_in hi, ?_, ?_⟩
      · exact LM_LSa (fun i hi b hb => by rw [wA_n (by omega)]; exact hop i hi b hb) (fun i hi => by rw [wA_1s]; exact fl_in hi) hCa (opOk_er hopk)
      · intro c hc
        show numI _ = numI _
        congr 1
        refine tpM_cong (fun k hk => ⟨hop k hk 2 (by omega), ?_, ?_⟩)
        · show vanI (M.1 483 k) (M.1 484 k) t = vanI _ _ _
          rw [show M.1 483 k = a_op a k 4 from hop k hk 4 (by omega), show M.1 484 k = a_op a k 5 from hop k hk 5 (by omega)]
        · exact LM_LSa (fun i hi b hb => by rw [wA_n (by omega)]; exact hop i hi b hb) (fun i hi => by rw [wA_1s]; exact fl_in hi) hCa (opOk_er hopk) k hk c hc
    · intro i hi ih
      refine jj_iload_n F dX9_layAt_2 rfl ?_
      refine jj_aload_n F dX9_layAt_3 rfl ?_
      refine jj_geti F g95 (by assumption) (by rfl) dX9_layAt_4 ?_
      rw [wA_1n (by decide), hn]
      refine jj_icmp_ge F (tgt := 28) dX9_layAt_7 (by decide) (fun h9 => absurd h9 (nI_ge (by omega) (by omega))) (fun _ => ?_)
      refine jj_aload_n F dX9_layAt_10 rfl ?_
      refine jj_getr F g69 (by assumption) (by rfl) dX9_layAt_11 ?_
      refine jj_iload_n F dX9_layAt_14 rfl ?_
      refine jj_aload_n F dX9_layAt_15 rfl ?_
      refine jj_getr F g28 (by assumption) (by rfl) dX9_layAt_16 ?_
      refine jj_iload_n F dX9_layAt_19 rfl ?_
      refine jj_zald F (by assumption) rfl (by omega) dX9_layAt_20 ?_
      rw [wA_1n (by decide), hac i hi]
      refine jj_zast F (by assumption) rfl (by omega) (by first | exact Or.inl rfl | exact Or.inr rfl | exact b2i_01 _ | assumption) dX9_layAt_21 ?_
      refine jj_iinc F dX9_layAt_22 rfl (by first | exact iinc1 _ | rfl) (by rw [hnl]; decide) ?_
      dsimp only [lq_st, lq_clr, lq_no]
      refine jj_goto F (tgt := 2) dX9_layAt_25 (by decide) ?_
      rw [fl_put rfl]
      exact ih
  refine jj_iconst F (v := nI 0) dX9_layAt_0 (by decide) ?_
  refine jj_istore_n F dX9_layAt_1 (by rw [hnl]; decide) ?_
  dsimp only [lq_st, lq_clr, lq_no]
  refine jj_eqM (fl_0 M 498 (fun k => b2i (a_ac a k))) ?_
  exact lo 0 (by omega)
set_option maxRecDepth 100000 in
set_option maxHeartbeats 1000000 in
theorem c_X9_layNow {l : Launch} {E : Ee} {M : Mm} {a : Ab} {W : Nat} (hM : RelM M a W) : CtV l E yX9_layNow (.code yX9_layNow cX9_layNow 1 none :: gl) ({ frames := 4, cells := 0, slots := 0, locals := 95 } : Room) M [.ref (E.2.2 478)] 0 0 (fun M2 => LayP M M2 a (a_ac a) (a_n a) (nI (a_t a))) := by
  refine ctV_of (L0 := [some (.ref (E.2.2 478))]) (by decide) rfl (Nat.le_of_ble_eq_true rfl) rfl ?_
  intro Z hl hE hnl F ret
  subst hE
  have in_X9 : ∀ w ∈ u_ws RX9 TX9 33, w ∈ (.code yX9_layNow cX9_layNow 1 none :: gl) := fun w h => List.mem_cons_of_mem _ (lay_X9 w h)
  have g126 : FG Z 126 9 1 := fg_mk F (C := RX9) (T := TX9) (N := 33) in_X9 rfl (by decide) rfl (List.mem_cons_of_mem _ fk_X9_126)
  obtain ⟨⟨h60, ht, htk, hn, hop, hac, hun, hopk, ⟨u0, hu1, hu2, hu3⟩, C, hC, hCa⟩, ⟨hlk, hll, hlz⟩, hK, ⟨hln, hl40, htx⟩, L0, hL0⟩ := id hM
  have kM := kd_M
  have k479 := kd_479
  have k480 := kd_480
  have k481 := kd_481
  have k482 := kd_482
  have k483 := kd_483
  have k484 := kd_484
  have k485 := kd_485
  have k486 := kd_486
  have k487 := kd_487
  have k488 := kd_488
  have k489 := kd_489
  have k490 := kd_490
  have k491 := kd_491
  have k492 := kd_492
  have k493 := kd_493
  have k494 := kd_494
  have k495 := kd_495
  have k496 := kd_496
  have k497 := kd_497
  have k498 := kd_498
  have k499 := kd_499
  have k500 := kd_500
  have k501 := kd_501
  have k502 := kd_502
  have k503 := kd_503
  refine jj_aload_n F dX9_layNow_0 rfl ?_
  refine jj_aload_n F dX9_layNow_1 rfl ?_
  refine jj_geti F g126 (by assumption) (by rfl) dX9_layNow_2 ?_
  rw [htk]
  refine jj_callVv (na := 1) F (c_X9_layAt hM) (gl_V mk_X9_129 vw_X9_layAt) rfl rfl rfl (by decide +kernel) ⟨Nat.le_of_ble_eq_true rfl, Nat.le_of_ble_eq_true rfl⟩ (by assumption) rfl rfl rfl (Nat.le_of_ble_eq_true rfl) ⟨Nat.le_of_ble_eq_true rfl, Nat.le_of_ble_eq_true rfl⟩ dX9_layNow_5 (fun M5 hp5 => ?_)
  refine ret _ _ _ dX9_layNow_8 ?_
  exact hp5
def shF (M : Mm) (c : Nat) : Int32 := if M.1 499 c = -1 then nI 0 else M.1 482 ((M.1 499 c).toNatClampNeg)
theorem num_ix {o : Option Nat} (h : ¬ numI o = -1) (hj : ∀ j, o = some j → j < 60) : numI o = nI ((numI o).toNatClampNeg) ∧ (numI o).toNatClampNeg < 60 := by
  cases o with
  | none => exact absurd rfl h
  | some j =>
    have := hj j rfl
    show nI j = nI (nI j).toNatClampNeg ∧ (nI j).toNatClampNeg < 60
    rw [nI_clamp (by omega)]
    exact ⟨rfl, this⟩
def topsOk (M : Mm) : Prop := ∀ c, c < 256 → ∃ o : Option Nat, M.1 499 c = numI o ∧ ∀ j, o = some j → j < 60
set_option maxRecDepth 100000 in
set_option maxHeartbeats 1000000 in
theorem c_X9_shown {l : Launch} {E : Ee} {M : Mm} {c : Nat} (hT : topsOk M) (hc : c < 256) : CtI l E yX9_shown (.code yX9_shown cX9_shown 2 (some .int) :: gl) ({ frames := 0, cells := 0, slots := 0, locals := 0 } : Room) M [.ref (E.2.2 478), .int (nI c)] 0 0 (fun r M2 => r = shF M c ∧ M2 = M) := by
  refine ctI_of (L0 := [some (.ref (E.2.2 478)), some (.int (nI c))]) (by decide) rfl (Nat.le_of_ble_eq_true rfl) rfl ?_
  intro Z hl hE hnl F ret
  subst hE
  have in_X9 : ∀ w ∈ u_ws RX9 TX9 33, w ∈ (.code yX9_shown cX9_shown 2 (some .int) :: gl) := fun w h => List.mem_cons_of_mem _ (lay_X9 w h)
  have g19 : FG Z 19 9 6 := fg_mk F (C := RX9) (T := TX9) (N := 33) in_X9 rfl (by decide) rfl (List.mem_cons_of_mem _ fk_X9_19)
  have g72 : FG Z 72 9 26 := fg_mk F (C := RX9) (T := TX9) (N := 33) in_X9 rfl (by decide) rfl (List.mem_cons_of_mem _ fk_X9_72)
  have kM := kd_M
  have k479 := kd_479
  have k480 := kd_480
  have k481 := kd_481
  have k482 := kd_482
  have k483 := kd_483
  have k484 := kd_484
  have k485 := kd_485
  have k486 := kd_486
  have k487 := kd_487
  have k488 := kd_488
  have k489 := kd_489
  have k490 := kd_490
  have k491 := kd_491
  have k492 := kd_492
  have k493 := kd_493
  have k494 := kd_494
  have k495 := kd_495
  have k496 := kd_496
  have k497 := kd_497
  have k498 := kd_498
  have k499 := kd_499
  have k500 := kd_500
  have k501 := kd_501
  have k502 := kd_502
  have k503 := kd_503
  obtain ⟨o, ho, hj⟩ := hT c hc
  refine jj_aload_n F dX9_shown_0 rfl ?_
  refine jj_getr F g72 (by assumption) (by rfl) dX9_shown_1 ?_
  refine jj_iload_n F dX9_shown_4 rfl ?_
  refine jj_iald F (by assumption) rfl (by omega) dX9_shown_5 ?_
  refine jj_iconst F (v := -1) dX9_shown_6 (by decide) ?_
  refine jj_icmp_ne F (tgt := 14) dX9_shown_7 (by decide) (fun h7 => ?_) (fun h7 => ?_)
  · refine jj_aload_n F dX9_shown_14 rfl ?_
    refine jj_getr F g19 (by assumption) (by rfl) dX9_shown_15 ?_
    refine jj_aload_n F dX9_shown_18 rfl ?_
    refine jj_getr F g72 (by assumption) (by rfl) dX9_shown_19 ?_
    refine jj_iload_n F dX9_shown_22 rfl ?_
    refine jj_iald F (by assumption) rfl (by omega) dX9_shown_23 ?_
    obtain ⟨e1, e2⟩ := num_ix (fun z => h7 (ho.trans z)) hj
    rw [← ho] at e1 e2
    refine jj_iald F (by assumption) e1 e2 dX9_shown_24 ?_
    refine ret _ _ _ _ dX9_shown_25 (by first | rfl | exact nar_z (by first | exact Or.inl rfl | exact Or.inr rfl | exact b2i_01 _ | assumption)) ?_
    refine ⟨?_, rfl⟩
    unfold shF
    first
    | rw [if_pos h7]
    | rw [if_neg h7]
  · refine jj_iconst F (v := nI 0) dX9_shown_10 (by decide) ?_
    refine jj_goto F (tgt := 25) dX9_shown_11 (by decide) ?_
    refine ret _ _ _ _ dX9_shown_25 (by first | rfl | exact nar_z (by first | exact Or.inl rfl | exact Or.inr rfl | exact b2i_01 _ | assumption)) ?_
    refine ⟨?_, rfl⟩
    unfold shF
    first
    | rw [if_pos h7]
    | rw [if_neg h7]
set_option maxRecDepth 100000 in
set_option maxHeartbeats 1000000 in
theorem c_X9_keepPicture {l : Launch} {E : Ee} {M : Mm} (hT : topsOk M) : CtV l E yX9_keepPicture (.code yX9_keepPicture cX9_keepPicture 2 none :: gl) ({ frames := 1, cells := 0, slots := 0, locals := 21 } : Room) M [.ref (E.2.2 478)] 0 0 (fun M2 => M2 = wA M 500 (shF M)) := by
  refine ctV_of (L0 := [some (.ref (E.2.2 478)), none]) (by decide) rfl (Nat.le_of_ble_eq_true rfl) rfl ?_
  intro Z hl hE hnl F ret
  subst hE
  have in_X9 : ∀ w ∈ u_ws RX9 TX9 33, w ∈ (.code yX9_keepPicture cX9_keepPicture 2 none :: gl) := fun w h => List.mem_cons_of_mem _ (lay_X9 w h)
  have g75 : FG Z 75 9 27 := fg_mk F (C := RX9) (T := TX9) (N := 33) in_X9 rfl (by decide) rfl (List.mem_cons_of_mem _ fk_X9_75)
  have kM := kd_M
  have k479 := kd_479
  have k480 := kd_480
  have k481 := kd_481
  have k482 := kd_482
  have k483 := kd_483
  have k484 := kd_484
  have k485 := kd_485
  have k486 := kd_486
  have k487 := kd_487
  have k488 := kd_488
  have k489 := kd_489
  have k490 := kd_490
  have k491 := kd_491
  have k492 := kd_492
  have k493 := kd_493
  have k494 := kd_494
  have k495 := kd_495
  have k496 := kd_496
  have k497 := kd_497
  have k498 := kd_498
  have k499 := kd_499
  have k500 := kd_500
  have k501 := kd_501
  have k502 := kd_502
  have k503 := kd_503
  have lo : ∀ i, i ≤ 256 → JJ Z (0, 0) (wA M 500 (fl i (shF M) (M.1 500))) 2 [some (.ref ((zE Z).2.2 478)), some (.int (nI i))] [] := by
    refine jj_loop (256) ?_ ?_
    · refine jj_iload_n F dX9_keepPicture_2 rfl ?_
      refine jj_sipush F (v := nI 256) dX9_keepPicture_3 (by decide) ?_
      refine jj_icmp_ge F (tgt := 26) dX9_keepPicture_6 (by decide) (fun _ => ?_) (fun h9 => absurd (nI_le (by omega) (by omega)) h9)
      refine jj_eqv (meq_fl k500) ?_
      exact ret _ _ _ dX9_keepPicture_26 rfl
    · intro i hi ih
      refine jj_iload_n F dX9_keepPicture_2 rfl ?_
      refine jj_sipush F (v := nI 256) dX9_keepPicture_3 (by decide) ?_
      refine jj_icmp_ge F (tgt := 26) dX9_keepPicture_6 (by decide) (fun h9 => absurd h9 (nI_ge (by omega) (by omega))) (fun _ => ?_)
      refine jj_aload_n F dX9_keepPicture_9 rfl ?_
      refine jj_getr F g75 (by assumption) (by rfl) dX9_keepPicture_10 ?_
      refine jj_iload_n F dX9_keepPicture_13 rfl ?_
      refine jj_aload_n F dX9_keepPicture_14 rfl ?_
      refine jj_iload_n F dX9_keepPicture_15 rfl ?_
      refine jj_callVi (na := 1) F (c_X9_shown (M := wA M 500 (fl i (shF M) (M.1 500))) hT (by omega)) (gl_V mk_X9_132 vw_X9_shown) rfl rfl rfl (by decide +kernel) ⟨Nat.le_of_ble_eq_true rfl, Nat.le_of_ble_eq_true rfl⟩ (by assumption) rfl rfl rfl (Nat.le_of_ble_eq_true rfl) ⟨Nat.le_of_ble_eq_true rfl, Nat.le_of_ble_eq_true rfl⟩ dX9_keepPicture_16 (fun r16 M16 hp16 => ?_)
      obtain ⟨rfl, rfl⟩ := symm2 hp16
      refine jj_iast F (by assumption) rfl (by omega) dX9_keepPicture_19 ?_
      refine jj_iinc F dX9_keepPicture_20 rfl (by first | exact iinc1 _ | rfl) (by rw [hnl]; decide) ?_
      dsimp only [lq_st, lq_clr, lq_no]
      refine jj_goto F (tgt := 2) dX9_keepPicture_23 (by decide) ?_
      rw [show shF (wA M 500 (fl i (shF M) (M.1 500))) i = shF M i from rfl, fl_put rfl]
      exact ih
  refine jj_iconst F (v := nI 0) dX9_keepPicture_0 (by decide) ?_
  refine jj_istore_n F dX9_keepPicture_1 (by rw [hnl]; decide) ?_
  dsimp only [lq_st, lq_clr, lq_no]
  refine jj_eqM (fl_0 M 500 (shF M)) ?_
  exact lo 0 (by omega)
set_option maxRecDepth 100000 in
set_option maxHeartbeats 1000000 in
theorem c_X9_others {l : Launch} {E : Ee} {M : Mm} (hT : topsOk M) : CtI l E yX9_others (.code yX9_others cX9_others 3 (some .int) :: gl) ({ frames := 1, cells := 0, slots := 0, locals := 21 } : Room) M [.ref (E.2.2 478)] 0 0 (fun r M2 => r = nI (fb_ct (fun c => !decide (M.1 500 c = shF M c)) 256) ∧ M2 = M) := by
  refine ctI_of (L0 := [some (.ref (E.2.2 478)), none, none]) (by decide) rfl (Nat.le_of_ble_eq_true rfl) rfl ?_
  intro Z hl hE hnl F ret
  subst hE
  have in_X9 : ∀ w ∈ u_ws RX9 TX9 33, w ∈ (.code yX9_others cX9_others 3 (some .int) :: gl) := fun w h => List.mem_cons_of_mem _ (lay_X9 w h)
  have g75 : FG Z 75 9 27 := fg_mk F (C := RX9) (T := TX9) (N := 33) in_X9 rfl (by decide) rfl (List.mem_cons_of_mem _ fk_X9_75)
  have kM := kd_M
  have k479 := kd_479
  have k480 := kd_480
  have k481 := kd_481
  have k482 := kd_482
  have k483 := kd_483
  have k484 := kd_484
  have k485 := kd_485
  have k486 := kd_486
  have k487 := kd_487
  have k488 := kd_488
  have k489 := kd_489
  have k490 := kd_490
  have k491 := kd_491
  have k492 := kd_492
  have k493 := kd_493
  have k494 := kd_494
  have k495 := kd_495
  have k496 := kd_496
  have k497 := kd_497
  have k498 := kd_498
  have k499 := kd_499
  have k500 := kd_500
  have k501 := kd_501
  have k502 := kd_502
  have k503 := kd_503
  have lo : ∀ i, i ≤ 256 → JJ Z (0, 0) (M) 4 [some (.ref ((zE Z).2.2 478)), some (.int (nI (fb_ct (fun c => !decide (M.1 500 c = shF M c)) i))), some (.int (nI i))] [] := by
    refine jj_loop (256) ?_ ?_
    · refine jj_iload_n F dX9_others_4 rfl ?_
      refine jj_sipush F (v := nI 256) dX9_others_5 (by decide) ?_
      refine jj_icmp_ge F (tgt := 39) dX9_others_8 (by decide) (fun _ => ?_) (fun h9 => absurd (nI_le (by omega) (by omega)) h9)
      refine jj_iload_n F dX9_others_39 rfl ?_
      exact ret _ _ _ _ dX9_others_40 rfl ⟨rfl, rfl⟩
    · intro i hi ih
      refine jj_iload_n F dX9_others_4 rfl ?_
      refine jj_sipush F (v := nI 256) dX9_others_5 (by decide) ?_
      refine jj_icmp_ge F (tgt := 39) dX9_others_8 (by decide) (fun h9 => absurd h9 (nI_ge (by omega) (by omega))) (fun _ => ?_)
      refine jj_iload_n F dX9_others_11 rfl ?_
      refine jj_aload_n F dX9_others_12 rfl ?_
      refine jj_getr F g75 (by assumption) (by rfl) dX9_others_13 ?_
      refine jj_iload_n F dX9_others_16 rfl ?_
      refine jj_iald F (by assumption) rfl (by omega) dX9_others_17 ?_
      refine jj_aload_n F dX9_others_18 rfl ?_
      refine jj_iload_n F dX9_others_19 rfl ?_
      refine jj_callVi (na := 1) F (c_X9_shown (by assumption) (by omega)) (gl_V mk_X9_132 vw_X9_shown) rfl rfl rfl (by decide +kernel) ⟨Nat.le_of_ble_eq_true rfl, Nat.le_of_ble_eq_true rfl⟩ (by assumption) rfl rfl rfl (Nat.le_of_ble_eq_true rfl) ⟨Nat.le_of_ble_eq_true rfl, Nat.le_of_ble_eq_true rfl⟩ dX9_others_20 (fun r20 M20 hp20 => ?_)
      obtain ⟨rfl, rfl⟩ := symm2 hp20
      refine jj_icmp_ne F (tgt := 30) dX9_others_23 (by decide) (fun h23 => ?_) (fun h23 => ?_)
      · refine jj_iconst F (v := nI 1) dX9_others_30 (by decide) ?_
        refine jj_iadd F dX9_others_31 ?_
        refine jj_istore_n F dX9_others_32 (by rw [hnl]; decide) ?_
        dsimp only [lq_st, lq_clr, lq_no]
        refine jj_iinc F dX9_others_33 rfl (by first | exact iinc1 _ | rfl) (by rw [hnl]; decide) ?_
        dsimp only [lq_st, lq_clr, lq_no]
        refine jj_goto F (tgt := 4) dX9_others_36 (by decide) ?_
        refine jj_eqL ?_ ih
        rw [fb_ct_succ, nI_add]
        first
        | (simp only [h23, decide_true, Bool.not_true, Bool.false_eq_true, if_false]; done)
        | (simp only [h23, decide_false, Bool.not_false, if_true]; done)
      · refine jj_iconst F (v := nI 0) dX9_others_26 (by decide) ?_
        refine jj_goto F (tgt := 31) dX9_others_27 (by decide) ?_
        refine jj_iadd F dX9_others_31 ?_
        refine jj_istore_n F dX9_others_32 (by rw [hnl]; decide) ?_
        dsimp only [lq_st, lq_clr, lq_no]
        refine jj_iinc F dX9_others_33 rfl (by first | exact iinc1 _ | rfl) (by rw [hnl]; decide) ?_
        dsimp only [lq_st, lq_clr, lq_no]
        refine jj_goto F (tgt := 4) dX9_others_36 (by decide) ?_
        refine jj_eqL ?_ ih
        rw [fb_ct_succ, nI_add]
        first
        | (simp only [h23, decide_true, Bool.not_true, Bool.false_eq_true, if_false]; done)
        | (simp only [h23, decide_false, Bool.not_false, if_true]; done)
  refine jj_iconst F (v := nI 0) dX9_others_0 (by decide) ?_
  refine jj_istore_n F dX9_others_1 (by rw [hnl]; decide) ?_
  dsimp only [lq_st, lq_clr, lq_no]
  refine jj_iconst F (v := nI 0) dX9_others_2 (by decide) ?_
  refine jj_istore_n F dX9_others_3 (by rw [hnl]; decide) ?_
  dsimp only [lq_st, lq_clr, lq_no]
  exact lo 0 (by omega)
theorem topsOk_lay {M M2 : Mm} {a : Ab} {go : Nat → Bool} {n : Nat} {t : Int32} (hn : n ≤ 60) (h : LayP M M2 a go n t) : topsOk M2 := by
  obtain ⟨g, L, f, rfl, -, -, hf⟩ := h
  intro c hc
  exact ⟨_, by rw [wA_1s]; exact hf c hc, fun j hj => by have := tA_lt hj; omega⟩
theorem shF_lay {M M2 : Mm} {a : Ab} {W : Nat} {go : Nat → Bool} {n : Nat} {t : Int32} (hM : RelM M a W) (hn : n ≤ a_n a) (h : LayP M M2 a go n t) {c : Nat} (hc : c < 256) : shF M2 c = colA (a_op a) (a_C a) go n t c := by
  obtain ⟨⟨h60, ht, htk, hn0, hop, hac, hun, hopk, hu, C, hC, hCa⟩, -⟩ := hM
  obtain ⟨g, L, f, rfl, -, -, hf⟩ := h
  rw [colA_t (opOk_lay (fun i hi => hopk i (by omega)))]
  unfold shF
  rw [wA_1s, hf c hc, wA_n (by decide), wL_1, wA_n (by decide)]
  cases e : tA (a_op a) (a_C a) go n t c with
  | none => rfl
  | some j =>
    have := tA_lt e
    show (if nI j = -1 then _ else M.1 482 (nI j).toNatClampNeg) = a_op a j 3
    rw [if_neg (nI_m1 (by omega)), nI_clamp (by omega)]
    exact hop j (by omega) 3 (by omega)
theorem top_lay {M M2 : Mm} {a : Ab} {W : Nat} {go : Nat → Bool} {n : Nat} {t : Int32} (hM : RelM M a W) (hn : n ≤ a_n a) (h : LayP M M2 a go n t) {c : Nat} (hc : c < 256) : M2.1 499 c = topA (a_op a) (a_C a) go n t c := by
  obtain ⟨⟨h60, ht, htk, hn0, hop, hac, hun, hopk, hu, C, hC, hCa⟩, -⟩ := hM
  obtain ⟨g, L, f, rfl, -, -, hf⟩ := h
  rw [topA_t (opOk_lay (fun i hi => hopk i (by omega))), wA_1s, hf c hc]
