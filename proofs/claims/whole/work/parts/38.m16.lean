def unG (a : Ab) (k : Nat) (b : Bool) (v : Nat) : Ab := (a_n a, a_t a, a_op a, fun i => if i = k then b else a_ac a i, a_C a, fun i => if i = k then v else a_un a i, a_lk a, a_mk a, a_ln a, a_cd a, a_g a)
theorem RelM_ug {M M2 : Mm} {a : Ab} {W W2 k v w : Nat} {b : Bool} (hM : RelM M a W) (h478 : ∀ b, b = 1 ∨ b = 2 ∨ b = 13 ∨ b = 22 → M2.1 478 b = M.1 478 b) (h11 : M2.1 478 11 = nI w) (hw : w ≤ W2) (hwu : ∀ i, i < a_n a → (if i = k then v else a_un a i) ≤ w) (h485 : M2.1 485 = upd (M.1 485) k (b2i b)) (h486 : M2.1 486 = upd (M.1 486) k (nI v)) (hot : ∀ x, 479 ≤ x → x ≤ 496 → x ≠ 485 → x ≠ 486 → M2.1 x = M.1 x) (hs : M2.2 = M.2) : RelM M2 (unG a k b v) W2 := by
  obtain ⟨⟨o1, o2, o3, o4, o5, o6, o7, o8, ⟨u, u1, u2, u3⟩, C, o9, o10⟩, ⟨l1, l2, l3⟩, hK, ⟨t1, t2, t3⟩, L, hL⟩ := hM
  refine ⟨⟨o1, o2, by rw [h478 1 (by simp)]; exact o3, by rw [h478 2 (by simp)]; exact o4, fun i hi b hb => by rw [hot _ (by omega) (by omega) (by omega) (by omega)]; exact o5 i hi b hb, fun i hi => ?_, fun i hi => ?_, o8, ⟨w, hw, h11, hwu⟩, C, by rw [hs]; exact o9, o10⟩, ⟨l1, by rw [h478 13 (by simp)]; exact l2, fun j z hz => by rw [hot 488 (by omega) (by omega) (by omega) (by omega), hot 489 (by omega) (by omega) (by omega) (by omega), hot 490 (by omega) (by omega) (by omega) (by omega), hot 491 (by omega) (by omega) (by omega) (by omega)]; exact l3 j z hz⟩, fun m hm => by rw [hot 495 (by omega) (by omega) (by omega) (by omega), hot 492 (by omega) (by omega) (by omega) (by omega), hot 493 (by omega) (by omega) (by omega) (by omega), hs]; exact hK m hm, ⟨by rw [h478 22 (by simp)]; exact t1, t2, fun i hi => by rw [hot 496 (by omega) (by omega) (by omega) (by omega)]; exact t3 i hi⟩, L, by rw [hs]; exact hL⟩
  · rw [h485]
    show upd (M.1 485) k (b2i b) i = b2i (if i = k then b else a_ac a i)
    by_cases q : i = k
    · rw [if_pos q, q]; simp [upd]
    · rw [if_neg q]; simp only [upd, if_neg q]; exact o6 i hi
  · rw [h486]
    show upd (M.1 486) k (nI v) i = nI (if i = k then v else a_un a i)
    by_cases q : i = k
    · rw [if_pos q, q]; simp [upd]
    · rw [if_neg q]; simp only [upd, if_neg q]; exact o7 i hi
set_option maxRecDepth 100000 in
set_option maxHeartbeats 1000000 in
theorem m_undo_1 {l : Launch} {E : Ee} {M : Mm} {a : Ab} {W : Nat} (hM : RelM M a W) {x : Int32} (hw : wiB x (nI 0) (nI 4) = false) : CtI l E yX9_undo (.code yX9_undo cX9_undo 3 (some .int) :: gl) ({ frames := 2, cells := 0, slots := 0, locals := 42 } : Room) M [.ref (E.2.2 478), .int x] 0 0 (fun r M2 => r = nI 0 ∧ RelM M2 a W ∧ Pub M M2 1) := by
  refine ctI_of (L0 := [some (.ref (E.2.2 478)), some (.int x), none]) (by decide) rfl (Nat.le_of_ble_eq_true rfl) rfl ?_
  intro Z hl hE hnl F ret
  subst hE
  have in_X9 : ∀ w ∈ u_ws RX9 TX9 33, w ∈ (.code yX9_undo cX9_undo 3 (some .int) :: gl) := fun w h => List.mem_cons_of_mem _ (lay_X9 w h)
  have g28 : FG Z 28 9 9 := fg_mk F (C := RX9) (T := TX9) (N := 33) in_X9 rfl (by decide) rfl (List.mem_cons_of_mem _ fk_X9_28)
  have g32 : FG Z 32 9 10 := fg_mk F (C := RX9) (T := TX9) (N := 33) in_X9 rfl (by decide) rfl (List.mem_cons_of_mem _ fk_X9_32)
  have g87 : FG Z 87 9 0 := fg_mk F (C := RX9) (T := TX9) (N := 33) in_X9 rfl (by decide) rfl (List.mem_cons_of_mem _ fk_X9_87)
  have g139 : FG Z 139 9 11 := fg_mk F (C := RX9) (T := TX9) (N := 33) in_X9 rfl (by decide) rfl (List.mem_cons_of_mem _ fk_X9_139)
  have p87 : FP Z 87 9 0 .int := fp_mk F (C := RX9) (T := TX9) (N := 33) in_X9 tyX9_ok nmX9 rfl (by decide) rfl (List.mem_cons_of_mem _ fk_X9_87) rfl (by decide +kernel)
  have p139 : FP Z 139 9 11 .int := fp_mk F (C := RX9) (T := TX9) (N := 33) in_X9 tyX9_ok nmX9 rfl (by decide) rfl (List.mem_cons_of_mem _ fk_X9_139) rfl (by decide +kernel)
  obtain ⟨⟨h60, ht, htk, hn, hop, hac, hun, hopk, ⟨u0, hu1, hu2, hu3⟩, C, hC, hCa⟩, ⟨hlk, hll, hlz⟩, hK, ⟨hln, hl40, htx⟩, L0, hL0⟩ := id hM
  have kM := kd_M
  have k479 := kd_479
  have k480 := kd_480
  have k481 := kd_481
  have k482 := kd_482
  have k483 := kd_483
  have k484 := kd_484
  have k485 := kd_485
  have k486 := kd_486
  have k487 := kd_487
  have k488 := kd_488
  have k489 := kd_489
  have k490 := kd_490
  have k491 := kd_491
  have k492 := kd_492
  have k493 := kd_493
  have k494 := kd_494
  have k495 := kd_495
  have k496 := kd_496
  have k497 := kd_497
  have k498 := kd_498
  have k499 := kd_499
  have k500 := kd_500
  have k501 := kd_501
  have k502 := kd_502
  have k503 := kd_503
  refine jj_aload_n F dX9_undo_0 rfl ?_
  refine jj_iload_n F dX9_undo_1 rfl ?_
  refine jj_callSi (na := 1) F c_X9_isUser (gl_S mk_X9_184 vw_X9_isUser) rfl rfl rfl (by decide +kernel) ⟨Nat.le_of_ble_eq_true rfl, Nat.le_of_ble_eq_true rfl⟩ rfl rfl (Nat.le_of_ble_eq_true rfl) ⟨Nat.le_of_ble_eq_true rfl, Nat.le_of_ble_eq_true rfl⟩ dX9_undo_2 (fun r2 M2 hp2 => ?_)
  obtain ⟨rfl, rfl⟩ := symm2 hp2
  refine jj_if_ne F (tgt := 12) dX9_undo_5 (by decide) (fun h9 => absurd h9 (fun z => z (by rw [hw]; rfl))) (fun _ => ?_)
  refine jj_iconst F (v := nI 1) dX9_undo_8 (by decide) ?_
  refine jj_goto F (tgt := 25) dX9_undo_9 (by decide) ?_
  refine jj_puti F p87 (by assumption) (by rfl) dX9_undo_25 ?_
  refine jj_aload_n F dX9_undo_28 rfl ?_
  refine jj_geti F g87 (by assumption) (by rfl) dX9_undo_29 ?_
  rw [thr_0]
  refine jj_if_le F (tgt := 37) dX9_undo_32 (by decide) (fun h9 => absurd h9 (by decide)) (fun _ => ?_)
  refine jj_iconst F (v := nI 0) dX9_undo_35 (by decide) ?_
  refine ret _ _ _ _ dX9_undo_36 (by first | rfl | exact nar_z (by first | exact Or.inl rfl | exact Or.inr rfl | exact b2i_01 _ | assumption)) ?_
  exact ⟨rfl, RelM_thr hM, Pub_0⟩
set_option maxRecDepth 100000 in
set_option maxHeartbeats 1000000 in
theorem m_undo_2 {l : Launch} {E : Ee} {M : Mm} {a : Ab} {W : Nat} (hM : RelM M a W) {u : Nat} (hu : u < 5) (hl9 : laA a (nI u) (a_n a) = none) : CtI l E yX9_undo (.code yX9_undo cX9_undo 3 (some .int) :: gl) ({ frames := 2, cells := 0, slots := 0, locals := 42 } : Room) M [.ref (E.2.2 478), .int (nI u)] 0 0 (fun r M2 => r = nI 0 ∧ RelM M2 a W ∧ Pub M M2 2) := by
  refine ctI_of (L0 := [some (.ref (E.2.2 478)), some (.int (nI u)), none]) (by decide) rfl (Nat.le_of_ble_eq_true rfl) rfl ?_
  intro Z hl hE hnl F ret
  subst hE
  have in_X9 : ∀ w ∈ u_ws RX9 TX9 33, w ∈ (.code yX9_undo cX9_undo 3 (some .int) :: gl) := fun w h => List.mem_cons_of_mem _ (lay_X9 w h)
  have g28 : FG Z 28 9 9 := fg_mk F (C := RX9) (T := TX9) (N := 33) in_X9 rfl (by decide) rfl (List.mem_cons_of_mem _ fk_X9_28)
  have g32 : FG Z 32 9 10 := fg_mk F (C := RX9) (T := TX9) (N := 33) in_X9 rfl (by decide) rfl (List.mem_cons_of_mem _ fk_X9_32)
  have g87 : FG Z 87 9 0 := fg_mk F (C := RX9) (T := TX9) (N := 33) in_X9 rfl (by decide) rfl (List.mem_cons_of_mem _ fk_X9_87)
  have g139 : FG Z 139 9 11 := fg_mk F (C := RX9) (T := TX9) (N := 33) in_X9 rfl (by decide) rfl (List.mem_cons_of_mem _ fk_X9_139)
  have p87 : FP Z 87 9 0 .int := fp_mk F (C := RX9) (T := TX9) (N := 33) in_X9 tyX9_ok nmX9 rfl (by decide) rfl (List.mem_cons_of_mem _ fk_X9_87) rfl (by decide +kernel)
  have p139 : FP Z 139 9 11 .int := fp_mk F (C := RX9) (T := TX9) (N := 33) in_X9 tyX9_ok nmX9 rfl (by decide) rfl (List.mem_cons_of_mem _ fk_X9_139) rfl (by decide +kernel)
  obtain ⟨⟨h60, ht, htk, hn, hop, hac, hun, hopk, ⟨u0, hu1, hu2, hu3⟩, C, hC, hCa⟩, ⟨hlk, hll, hlz⟩, hK, ⟨hln, hl40, htx⟩, L0, hL0⟩ := id hM
  have kM := kd_M
  have k479 := kd_479
  have k480 := kd_480
  have k481 := kd_481
  have k482 := kd_482
  have k483 := kd_483
  have k484 := kd_484
  have k485 := kd_485
  have k486 := kd_486
  have k487 := kd_487
  have k488 := kd_488
  have k489 := kd_489
  have k490 := kd_490
  have k491 := kd_491
  have k492 := kd_492
  have k493 := kd_493
  have k494 := kd_494
  have k495 := kd_495
  have k496 := kd_496
  have k497 := kd_497
  have k498 := kd_498
  have k499 := kd_499
  have k500 := kd_500
  have k501 := kd_501
  have k502 := kd_502
  have k503 := kd_503
  have hw := wi_ok (lo := 0) (c := u) (hi := 4) (by omega) (by omega) (by omega)
  refine jj_aload_n F dX9_undo_0 rfl ?_
  refine jj_iload_n F dX9_undo_1 rfl ?_
  refine jj_callSi (na := 1) F c_X9_isUser (gl_S mk_X9_184 vw_X9_isUser) rfl rfl rfl (by decide +kernel) ⟨Nat.le_of_ble_eq_true rfl, Nat.le_of_ble_eq_true rfl⟩ rfl rfl (Nat.le_of_ble_eq_true rfl) ⟨Nat.le_of_ble_eq_true rfl, Nat.le_of_ble_eq_true rfl⟩ dX9_undo_2 (fun r2 M2 hp2 => ?_)
  obtain ⟨rfl, rfl⟩ := symm2 hp2
  refine jj_if_ne F (tgt := 12) dX9_undo_5 (by decide) (fun _ => ?_) (fun h9 => absurd h9 (by rw [hw]; decide))
  refine jj_aload_n F dX9_undo_12 rfl ?_
  refine jj_iload_n F dX9_undo_13 rfl ?_
  refine jj_callVi (na := 1) F (c_X9_latestOf (M := M) (x := nI u) hM) (gl_V mk_X9_229 vw_X9_latestOf) rfl rfl rfl (by decide +kernel) ⟨Nat.le_of_ble_eq_true rfl, Nat.le_of_ble_eq_true rfl⟩ kM rfl rfl rfl (Nat.le_of_ble_eq_true rfl) ⟨Nat.le_of_ble_eq_true rfl, Nat.le_of_ble_eq_true rfl⟩ dX9_undo_14 (fun r14 M14 hp14 => ?_)
  obtain ⟨rfl, rfl⟩ := symm2 hp14
  rw [hl9]
  refine jj_if_ge F (tgt := 24) dX9_undo_17 (by decide) (fun h9 => absurd h9 (by decide)) (fun _ => ?_)
  refine jj_iconst F (v := nI 2) dX9_undo_20 (by decide) ?_
  refine jj_goto F (tgt := 25) dX9_undo_21 (by decide) ?_
  refine jj_puti F p87 (by assumption) (by rfl) dX9_undo_25 ?_
  refine jj_aload_n F dX9_undo_28 rfl ?_
  refine jj_geti F g87 (by assumption) (by rfl) dX9_undo_29 ?_
  rw [thr_0]
  refine jj_if_le F (tgt := 37) dX9_undo_32 (by decide) (fun h9 => absurd h9 (by decide)) (fun _ => ?_)
  refine jj_iconst F (v := nI 0) dX9_undo_35 (by decide) ?_
  refine ret _ _ _ _ dX9_undo_36 (by first | rfl | exact nar_z (by first | exact Or.inl rfl | exact Or.inr rfl | exact b2i_01 _ | assumption)) ?_
  exact ⟨rfl, RelM_thr hM, Pub_0⟩
set_option maxRecDepth 100000 in
set_option maxHeartbeats 1000000 in
theorem m_undo_0 {l : Launch} {E : Ee} {M : Mm} {a : Ab} {W : Nat} (hM : RelM M a W) {u k : Nat} (hu : u < 5) (hl9 : laA a (nI u) (a_n a) = some k) : CtI l E yX9_undo (.code yX9_undo cX9_undo 3 (some .int) :: gl) ({ frames := 2, cells := 0, slots := 0, locals := 42 } : Room) M [.ref (E.2.2 478), .int (nI u)] 0 0 (fun r M2 => r = nI k ∧ (∃ v, (∀ i, i < a_n a → a_un a i < v) ∧ RelM M2 (unG a k false v) (W + 1)) ∧ Pub M M2 0) := by
  refine ctI_of (L0 := [some (.ref (E.2.2 478)), some (.int (nI u)), none]) (by decide) rfl (Nat.le_of_ble_eq_true rfl) rfl ?_
  intro Z hl hE hnl F ret
  subst hE
  have in_X9 : ∀ w ∈ u_ws RX9 TX9 33, w ∈ (.code yX9_undo cX9_undo 3 (some .int) :: gl) := fun w h => List.mem_cons_of_mem _ (lay_X9 w h)
  have g28 : FG Z 28 9 9 := fg_mk F (C := RX9) (T := TX9) (N := 33) in_X9 rfl (by decide) rfl (List.mem_cons_of_mem _ fk_X9_28)
  have g32 : FG Z 32 9 10 := fg_mk F (C := RX9) (T := TX9) (N := 33) in_X9 rfl (by decide) rfl (List.mem_cons_of_mem _ fk_X9_32)
  have g87 : FG Z 87 9 0 := fg_mk F (C := RX9) (T := TX9) (N := 33) in_X9 rfl (by decide) rfl (List.mem_cons_of_mem _ fk_X9_87)
  have g139 : FG Z 139 9 11 := fg_mk F (C := RX9) (T := TX9) (N := 33) in_X9 rfl (by decide) rfl (List.mem_cons_of_mem _ fk_X9_139)
  have p87 : FP Z 87 9 0 .int := fp_mk F (C := RX9) (T := TX9) (N := 33) in_X9 tyX9_ok nmX9 rfl (by decide) rfl (List.mem_cons_of_mem _ fk_X9_87) rfl (by decide +kernel)
  have p139 : FP Z 139 9 11 .int := fp_mk F (C := RX9) (T := TX9) (N := 33) in_X9 tyX9_ok nmX9 rfl (by decide) rfl (List.mem_cons_of_mem _ fk_X9_139) rfl (by decide +kernel)
  obtain ⟨⟨h60, ht, htk, hn, hop, hac, hun, hopk, ⟨u0, hu1, hu2, hu3⟩, C, hC, hCa⟩, ⟨hlk, hll, hlz⟩, hK, ⟨hln, hl40, htx⟩, L0, hL0⟩ := id hM
  have kM := kd_M
  have k479 := kd_479
  have k480 := kd_480
  have k481 := kd_481
  have k482 := kd_482
  have k483 := kd_483
  have k484 := kd_484
  have k485 := kd_485
  have k486 := kd_486
  have k487 := kd_487
  have k488 := kd_488
  have k489 := kd_489
  have k490 := kd_490
  have k491 := kd_491
  have k492 := kd_492
  have k493 := kd_493
  have k494 := kd_494
  have k495 := kd_495
  have k496 := kd_496
  have k497 := kd_497
  have k498 := kd_498
  have k499 := kd_499
  have k500 := kd_500
  have k501 := kd_501
  have k502 := kd_502
  have k503 := kd_503
  have hw := wi_ok (lo := 0) (c := u) (hi := 4) (by omega) (by omega) (by omega)
  have hk9 := (laA_lt hl9).1
  refine jj_aload_n F dX9_undo_0 rfl ?_
  refine jj_iload_n F dX9_undo_1 rfl ?_
  refine jj_callSi (na := 1) F c_X9_isUser (gl_S mk_X9_184 vw_X9_isUser) rfl rfl rfl (by decide +kernel) ⟨Nat.le_of_ble_eq_true rfl, Nat.le_of_ble_eq_true rfl⟩ rfl rfl (Nat.le_of_ble_eq_true rfl) ⟨Nat.le_of_ble_eq_true rfl, Nat.le_of_ble_eq_true rfl⟩ dX9_undo_2 (fun r2 M2 hp2 => ?_)
  obtain ⟨rfl, rfl⟩ := symm2 hp2
  refine jj_if_ne F (tgt := 12) dX9_undo_5 (by decide) (fun _ => ?_) (fun h9 => absurd h9 (by rw [hw]; decide))
  refine jj_aload_n F dX9_undo_12 rfl ?_
  refine jj_iload_n F dX9_undo_13 rfl ?_
  refine jj_callVi (na := 1) F (c_X9_latestOf (M := M) (x := nI u) hM) (gl_V mk_X9_229 vw_X9_latestOf) rfl rfl rfl (by decide +kernel) ⟨Nat.le_of_ble_eq_true rfl, Nat.le_of_ble_eq_true rfl⟩ kM rfl rfl rfl (Nat.le_of_ble_eq_true rfl) ⟨Nat.le_of_ble_eq_true rfl, Nat.le_of_ble_eq_true rfl⟩ dX9_undo_14 (fun r14 M14 hp14 => ?_)
  obtain ⟨rfl, rfl⟩ := symm2 hp14
  rw [hl9]
  refine jj_if_ge F (tgt := 24) dX9_undo_17 (by decide) (fun _ => ?_) (fun h9 => absurd (nI_le (a := 0) (Nat.zero_le _) (by omega)) h9)
  refine jj_iconst F (v := nI 0) dX9_undo_24 (by decide) ?_
  refine jj_puti F p87 (by assumption) (by rfl) dX9_undo_25 ?_
  refine jj_aload_n F dX9_undo_28 rfl ?_
  refine jj_geti F g87 (by assumption) (by rfl) dX9_undo_29 ?_
  rw [thr_0]
  refine jj_if_le F (tgt := 37) dX9_undo_32 (by decide) (fun _ => ?_) (fun h9 => absurd (by decide) h9)
  refine jj_aload_n F dX9_undo_37 rfl ?_
  refine jj_iload_n F dX9_undo_38 rfl ?_
  refine jj_callVi (na := 1) F (c_X9_latestOf (M := thr M (nI 0)) (x := nI u) (RelM_thr hM)) (gl_V mk_X9_229 vw_X9_latestOf) rfl rfl rfl (by decide +kernel) ⟨Nat.le_of_ble_eq_true rfl, Nat.le_of_ble_eq_true rfl⟩ kM rfl rfl rfl (Nat.le_of_ble_eq_true rfl) ⟨Nat.le_of_ble_eq_true rfl, Nat.le_of_ble_eq_true rfl⟩ dX9_undo_39 (fun r39 M39 hp39 => ?_)
  obtain ⟨rfl, rfl⟩ := symm2 hp39
  rw [hl9]
  refine jj_istore_n F (x := nI k) dX9_undo_42 (by rw [hnl]; decide) ?_
  dsimp only [lq_st, lq_clr, lq_no]
  refine jj_aload_n F dX9_undo_43 rfl ?_
  refine jj_getr F g28 (by assumption) (by rfl) dX9_undo_44 ?_
  refine jj_iload_n F dX9_undo_47 rfl ?_
  refine jj_iconst F (v := nI 0) dX9_undo_48 (by decide) ?_
  refine jj_zast F (by assumption) rfl (by omega) (by first | exact Or.inl rfl | exact Or.inr rfl | exact b2i_01 _ | assumption) dX9_undo_49 ?_
  refine jj_aload_n F dX9_undo_50 rfl ?_
  refine jj_dup F dX9_undo_51 rfl ?_
  refine jj_geti F g139 (by assumption) (by rfl) dX9_undo_52 ?_
  refine jj_topi (show _ = nI u0 from hu2) ?_
  refine jj_iconst F (v := nI 1) dX9_undo_55 (by decide) ?_
  refine jj_iadd F dX9_undo_56 ?_
  rw [nI_add]
  refine jj_puti F p139 (by assumption) (by rfl) dX9_undo_57 ?_
  refine jj_aload_n F dX9_undo_60 rfl ?_
  refine jj_getr F g32 (by assumption) (by rfl) dX9_undo_61 ?_
  refine jj_iload_n F dX9_undo_64 rfl ?_
  refine jj_aload_n F dX9_undo_65 rfl ?_
  refine jj_geti F g139 (by assumption) (by rfl) dX9_undo_66 ?_
  refine jj_topi (show _ = nI (u0 + 1) from rfl) ?_
  refine jj_iast F (by assumption) rfl (by omega) dX9_undo_69 ?_
  refine jj_iload_n F dX9_undo_70 rfl ?_
  refine ret _ _ _ _ dX9_undo_71 (by first | rfl | exact nar_z (by first | exact Or.inl rfl | exact Or.inr rfl | exact b2i_01 _ | assumption)) ?_
  refine ⟨rfl, ⟨u0 + 1, fun i hi => by have := hu3 i hi; omega, RelM_ug hM (fun b hb => ?_) rfl (by omega) (fun i hi => ?_) rfl ?_ (fun y h1 h2 h3 h4 => ?_) rfl⟩, fun y hy => ?_, rfl, rfl⟩
  · rcases hb with rfl | rfl | rfl | rfl <;> rfl
  · have := hu3 i hi
    split <;> omega
  · rfl
  · rw [wA_n (by omega), wA_n (by omega), wA_n (by omega), wA_n (by omega)]
  · rw [wA_n (by omega), wA_n (by omega), wA_n (by omega), wA_n (by omega)]
set_option maxRecDepth 100000 in
set_option maxHeartbeats 1000000 in
theorem m_redo_1 {l : Launch} {E : Ee} {M : Mm} {a : Ab} {W : Nat} (hM : RelM M a W) {x : Int32} (hw : wiB x (nI 0) (nI 4) = false) : CtI l E yX9_redo (.code yX9_redo cX9_redo 3 (some .int) :: gl) ({ frames := 2, cells := 0, slots := 0, locals := 42 } : Room) M [.ref (E.2.2 478), .int x] 0 0 (fun r M2 => r = nI 0 ∧ RelM M2 a W ∧ Pub M M2 1) := by
  refine ctI_of (L0 := [some (.ref (E.2.2 478)), some (.int x), none]) (by decide) rfl (Nat.le_of_ble_eq_true rfl) rfl ?_
  intro Z hl hE hnl F ret
  subst hE
  have in_X9 : ∀ w ∈ u_ws RX9 TX9 33, w ∈ (.code yX9_redo cX9_redo 3 (some .int) :: gl) := fun w h => List.mem_cons_of_mem _ (lay_X9 w h)
  have g28 : FG Z 28 9 9 := fg_mk F (C := RX9) (T := TX9) (N := 33) in_X9 rfl (by decide) rfl (List.mem_cons_of_mem _ fk_X9_28)
  have g32 : FG Z 32 9 10 := fg_mk F (C := RX9) (T := TX9) (N := 33) in_X9 rfl (by decide) rfl (List.mem_cons_of_mem _ fk_X9_32)
  have g87 : FG Z 87 9 0 := fg_mk F (C := RX9) (T := TX9) (N := 33) in_X9 rfl (by decide) rfl (List.mem_cons_of_mem _ fk_X9_87)
  have p87 : FP Z 87 9 0 .int := fp_mk F (C := RX9) (T := TX9) (N := 33) in_X9 tyX9_ok nmX9 rfl (by decide) rfl (List.mem_cons_of_mem _ fk_X9_87) rfl (by decide +kernel)
  obtain ⟨⟨h60, ht, htk, hn, hop, hac, hun, hopk, ⟨u0, hu1, hu2, hu3⟩, C, hC, hCa⟩, ⟨hlk, hll, hlz⟩, hK, ⟨hln, hl40, htx⟩, L0, hL0⟩ := id hM
  have kM := kd_M
  have k479 := kd_479
  have k480 := kd_480
  have k481 := kd_481
  have k482 := kd_482
  have k483 := kd_483
  have k484 := kd_484
  have k485 := kd_485
  have k486 := kd_486
  have k487 := kd_487
  have k488 := kd_488
  have k489 := kd_489
  have k490 := kd_490
  have k491 := kd_491
  have k492 := kd_492
  have k493 := kd_493
  have k494 := kd_494
  have k495 := kd_495
  have k496 := kd_496
  have k497 := kd_497
  have k498 := kd_498
  have k499 := kd_499
  have k500 := kd_500
  have k501 := kd_501
  have k502 := kd_502
  have k503 := kd_503
  refine jj_aload_n F dX9_redo_0 rfl ?_
  refine jj_iload_n F dX9_redo_1 rfl ?_
  refine jj_callSi (na := 1) F c_X9_isUser (gl_S mk_X9_184 vw_X9_isUser) rfl rfl rfl (by decide +kernel) ⟨Nat.le_of_ble_eq_true rfl, Nat.le_of_ble_eq_true rfl⟩ rfl rfl (Nat.le_of_ble_eq_true rfl) ⟨Nat.le_of_ble_eq_true rfl, Nat.le_of_ble_eq_true rfl⟩ dX9_redo_2 (fun r2 M2 hp2 => ?_)
  obtain ⟨rfl, rfl⟩ := symm2 hp2
  refine jj_if_ne F (tgt := 12) dX9_redo_5 (by decide) (fun h9 => absurd h9 (fun z => z (by rw [hw]; rfl))) (fun _ => ?_)
  refine jj_iconst F (v := nI 1) dX9_redo_8 (by decide) ?_
  refine jj_goto F (tgt := 26) dX9_redo_9 (by decide) ?_
  refine jj_puti F p87 (by assumption) (by rfl) dX9_redo_26 ?_
  refine jj_aload_n F dX9_redo_29 rfl ?_
  refine jj_geti F g87 (by assumption) (by rfl) dX9_redo_30 ?_
  rw [thr_0]
  refine jj_if_le F (tgt := 38) dX9_redo_33 (by decide) (fun h9 => absurd h9 (by decide)) (fun _ => ?_)
  refine jj_iconst F (v := nI 0) dX9_redo_36 (by decide) ?_
  refine ret _ _ _ _ dX9_redo_37 (by first | rfl | exact nar_z (by first | exact Or.inl rfl | exact Or.inr rfl | exact b2i_01 _ | assumption)) ?_
  exact ⟨rfl, RelM_thr hM, Pub_0⟩
set_option maxRecDepth 100000 in
set_option maxHeartbeats 1000000 in
theorem m_redo_2 {l : Launch} {E : Ee} {M : Mm} {a : Ab} {W : Nat} (hM : RelM M a W) {u : Nat} (hWW : W < 1000) (hu : u < 5) (hl9 : rdA a (nI u) (a_n a) = none) : CtI l E yX9_redo (.code yX9_redo cX9_redo 3 (some .int) :: gl) ({ frames := 2, cells := 0, slots := 0, locals := 42 } : Room) M [.ref (E.2.2 478), .int (nI u)] 0 0 (fun r M2 => r = nI 0 ∧ RelM M2 a W ∧ Pub M M2 2) := by
  refine ctI_of (L0 := [some (.ref (E.2.2 478)), some (.int (nI u)), none]) (by decide) rfl (Nat.le_of_ble_eq_true rfl) rfl ?_
  intro Z hl hE hnl F ret
  subst hE
  have in_X9 : ∀ w ∈ u_ws RX9 TX9 33, w ∈ (.code yX9_redo cX9_redo 3 (some .int) :: gl) := fun w h => List.mem_cons_of_mem _ (lay_X9 w h)
  have g28 : FG Z 28 9 9 := fg_mk F (C := RX9) (T := TX9) (N := 33) in_X9 rfl (by decide) rfl (List.mem_cons_of_mem _ fk_X9_28)
  have g32 : FG Z 32 9 10 := fg_mk F (C := RX9) (T := TX9) (N := 33) in_X9 rfl (by decide) rfl (List.mem_cons_of_mem _ fk_X9_32)
  have g87 : FG Z 87 9 0 := fg_mk F (C := RX9) (T := TX9) (N := 33) in_X9 rfl (by decide) rfl (List.mem_cons_of_mem _ fk_X9_87)
  have p87 : FP Z 87 9 0 .int := fp_mk F (C := RX9) (T := TX9) (N := 33) in_X9 tyX9_ok nmX9 rfl (by decide) rfl (List.mem_cons_of_mem _ fk_X9_87) rfl (by decide +kernel)
  obtain ⟨⟨h60, ht, htk, hn, hop, hac, hun, hopk, ⟨u0, hu1, hu2, hu3⟩, C, hC, hCa⟩, ⟨hlk, hll, hlz⟩, hK, ⟨hln, hl40, htx⟩, L0, hL0⟩ := id hM
  have kM := kd_M
  have k479 := kd_479
  have k480 := kd_480
  have k481 := kd_481
  have k482 := kd_482
  have k483 := kd_483
  have k484 := kd_484
  have k485 := kd_485
  have k486 := kd_486
  have k487 := kd_487
  have k488 := kd_488
  have k489 := kd_489
  have k490 := kd_490
  have k491 := kd_491
  have k492 := kd_492
  have k493 := kd_493
  have k494 := kd_494
  have k495 := kd_495
  have k496 := kd_496
  have k497 := kd_497
  have k498 := kd_498
  have k499 := kd_499
  have k500 := kd_500
  have k501 := kd_501
  have k502 := kd_502
  have k503 := kd_503
  have hw := wi_ok (lo := 0) (c := u) (hi := 4) (by omega) (by omega) (by omega)
  refine jj_aload_n F dX9_redo_0 rfl ?_
  refine jj_iload_n F dX9_redo_1 rfl ?_
  refine jj_callSi (na := 1) F c_X9_isUser (gl_S mk_X9_184 vw_X9_isUser) rfl rfl rfl (by decide +kernel) ⟨Nat.le_of_ble_eq_true rfl, Nat.le_of_ble_eq_true rfl⟩ rfl rfl (Nat.le_of_ble_eq_true rfl) ⟨Nat.le_of_ble_eq_true rfl, Nat.le_of_ble_eq_true rfl⟩ dX9_redo_2 (fun r2 M2 hp2 => ?_)
  obtain ⟨rfl, rfl⟩ := symm2 hp2
  refine jj_if_ne F (tgt := 12) dX9_redo_5 (by decide) (fun _ => ?_) (fun h9 => absurd h9 (by rw [hw]; decide))
  refine jj_aload_n F dX9_redo_12 rfl ?_
  refine jj_iload_n F dX9_redo_13 rfl ?_
  refine jj_callVi (na := 1) F (c_X9_redoOf (M := M) (x := nI u) hM hWW) (gl_V mk_X9_232 vw_X9_redoOf) rfl rfl rfl (by decide +kernel) ⟨Nat.le_of_ble_eq_true rfl, Nat.le_of_ble_eq_true rfl⟩ kM rfl rfl rfl (Nat.le_of_ble_eq_true rfl) ⟨Nat.le_of_ble_eq_true rfl, Nat.le_of_ble_eq_true rfl⟩ dX9_redo_14 (fun r14 M14 hp14 => ?_)
  obtain ⟨rfl, rfl⟩ := symm2 hp14
  rw [hl9]
  refine jj_iconst F (v := -1) dX9_redo_17 (by decide) ?_
  refine jj_icmp_ne F (tgt := 25) dX9_redo_18 (by decide) (fun h9 => absurd h9 (fun z => z rfl)) (fun _ => ?_)
  refine jj_iconst F (v := nI 2) dX9_redo_21 (by decide) ?_
  refine jj_goto F (tgt := 26) dX9_redo_22 (by decide) ?_
  refine jj_puti F p87 (by assumption) (by rfl) dX9_redo_26 ?_
  refine jj_aload_n F dX9_redo_29 rfl ?_
  refine jj_geti F g87 (by assumption) (by rfl) dX9_redo_30 ?_
  rw [thr_0]
  refine jj_if_le F (tgt := 38) dX9_redo_33 (by decide) (fun h9 => absurd h9 (by decide)) (fun _ => ?_)
  refine jj_iconst F (v := nI 0) dX9_redo_36 (by decide) ?_
  refine ret _ _ _ _ dX9_redo_37 (by first | rfl | exact nar_z (by first | exact Or.inl rfl | exact Or.inr rfl | exact b2i_01 _ | assumption)) ?_
  exact ⟨rfl, RelM_thr hM, Pub_0⟩
set_option maxRecDepth 100000 in
set_option maxHeartbeats 1000000 in
theorem m_redo_0 {l : Launch} {E : Ee} {M : Mm} {a : Ab} {W : Nat} (hM : RelM M a W) {u k : Nat} (hWW : W < 1000) (hu : u < 5) (hl9 : rdA a (nI u) (a_n a) = some k) : CtI l E yX9_redo (.code yX9_redo cX9_redo 3 (some .int) :: gl) ({ frames := 2, cells := 0, slots := 0, locals := 42 } : Room) M [.ref (E.2.2 478), .int (nI u)] 0 0 (fun r M2 => r = nI k ∧ RelM M2 (unG a k true 0) W ∧ Pub M M2 0) := by
  refine ctI_of (L0 := [some (.ref (E.2.2 478)), some (.int (nI u)), none]) (by decide) rfl (Nat.le_of_ble_eq_true rfl) rfl ?_
  intro Z hl hE hnl F ret
  subst hE
  have in_X9 : ∀ w ∈ u_ws RX9 TX9 33, w ∈ (.code yX9_redo cX9_redo 3 (some .int) :: gl) := fun w h => List.mem_cons_of_mem _ (lay_X9 w h)
  have g28 : FG Z 28 9 9 := fg_mk F (C := RX9) (T := TX9) (N := 33) in_X9 rfl (by decide) rfl (List.mem_cons_of_mem _ fk_X9_28)
  have g32 : FG Z 32 9 10 := fg_mk F (C := RX9) (T := TX9) (N := 33) in_X9 rfl (by decide) rfl (List.mem_cons_of_mem _ fk_X9_32)
  have g87 : FG Z 87 9 0 := fg_mk F (C := RX9) (T := TX9) (N := 33) in_X9 rfl (by decide) rfl (List.mem_cons_of_mem _ fk_X9_87)
  have p87 : FP Z 87 9 0 .int := fp_mk F (C := RX9) (T := TX9) (N := 33) in_X9 tyX9_ok nmX9 rfl (by decide) rfl (List.mem_cons_of_mem _ fk_X9_87) rfl (by decide +kernel)
  obtain ⟨⟨h60, ht, htk, hn, hop, hac, hun, hopk, ⟨u0, hu1, hu2, hu3⟩, C, hC, hCa⟩, ⟨hlk, hll, hlz⟩, hK, ⟨hln, hl40, htx⟩, L0, hL0⟩ := id hM
  have kM := kd_M
  have k479 := kd_479
  have k480 := kd_480
  have k481 := kd_481
  have k482 := kd_482
  have k483 := kd_483
  have k484 := kd_484
  have k485 := kd_485
  have k486 := kd_486
  have k487 := kd_487
  have k488 := kd_488
  have k489 := kd_489
  have k490 := kd_490
  have k491 := kd_491
  have k492 := kd_492
  have k493 := kd_493
  have k494 := kd_494
  have k495 := kd_495
  have k496 := kd_496
  have k497 := kd_497
  have k498 := kd_498
  have k499 := kd_499
  have k500 := kd_500
  have k501 := kd_501
  have k502 := kd_502
  have k503 := kd_503
  have hw := wi_ok (lo := 0) (c := u) (hi := 4) (by omega) (by omega) (by omega)
  have hk9 := (rdA_lt hl9).1
  refine jj_aload_n F dX9_redo_0 rfl ?_
  refine jj_iload_n F dX9_redo_1 rfl ?_
  refine jj_callSi (na := 1) F c_X9_isUser (gl_S mk_X9_184 vw_X9_isUser) rfl rfl rfl (by decide +kernel) ⟨Nat.le_of_ble_eq_true rfl, Nat.le_of_ble_eq_true rfl⟩ rfl rfl (Nat.le_of_ble_eq_true rfl) ⟨Nat.le_of_ble_eq_true rfl, Nat.le_of_ble_eq_true rfl⟩ dX9_redo_2 (fun r2 M2 hp2 => ?_)
  obtain ⟨rfl, rfl⟩ := symm2 hp2
  refine jj_if_ne F (tgt := 12) dX9_redo_5 (by decide) (fun _ => ?_) (fun h9 => absurd h9 (by rw [hw]; decide))
  refine jj_aload_n F dX9_redo_12 rfl ?_
  refine jj_iload_n F dX9_redo_13 rfl ?_
  refine jj_callVi (na := 1) F (c_X9_redoOf (M := M) (x := nI u) hM hWW) (gl_V mk_X9_232 vw_X9_redoOf) rfl rfl rfl (by decide +kernel) ⟨Nat.le_of_ble_eq_true rfl, Nat.le_of_ble_eq_true rfl⟩ kM rfl rfl rfl (Nat.le_of_ble_eq_true rfl) ⟨Nat.le_of_ble_eq_true rfl, Nat.le_of_ble_eq_true rfl⟩ dX9_redo_14 (fun r14 M14 hp14 => ?_)
  obtain ⟨rfl, rfl⟩ := symm2 hp14
  rw [hl9]
  refine jj_iconst F (v := -1) dX9_redo_17 (by decide) ?_
  refine jj_icmp_ne F (tgt := 25) dX9_redo_18 (by decide) (fun _ => ?_) (fun h9 => absurd h9 (nI_m1 (by omega)))
  refine jj_iconst F (v := nI 0) dX9_redo_25 (by decide) ?_
  refine jj_puti F p87 (by assumption) (by rfl) dX9_redo_26 ?_
  refine jj_aload_n F dX9_redo_29 rfl ?_
  refine jj_geti F g87 (by assumption) (by rfl) dX9_redo_30 ?_
  rw [thr_0]
  refine jj_if_le F (tgt := 38) dX9_redo_33 (by decide) (fun _ => ?_) (fun h9 => absurd (by decide) h9)
  refine jj_aload_n F dX9_redo_38 rfl ?_
  refine jj_iload_n F dX9_redo_39 rfl ?_
  refine jj_callVi (na := 1) F (c_X9_redoOf (M := thr M (nI 0)) (x := nI u) (RelM_thr hM) hWW) (gl_V mk_X9_232 vw_X9_redoOf) rfl rfl rfl (by decide +kernel) ⟨Nat.le_of_ble_eq_true rfl, Nat.le_of_ble_eq_true rfl⟩ kM rfl rfl rfl (Nat.le_of_ble_eq_true rfl) ⟨Nat.le_of_ble_eq_true rfl, Nat.le_of_ble_eq_true rfl⟩ dX9_redo_40 (fun r40 M40 hp40 => ?_)
  obtain ⟨rfl, rfl⟩ := symm2 hp40
  rw [hl9]
  refine jj_istore_n F (x := nI k) dX9_redo_43 (by rw [hnl]; decide) ?_
  dsimp only [lq_st, lq_clr, lq_no]
  refine jj_aload_n F dX9_redo_44 rfl ?_
  refine jj_getr F g28 (by assumption) (by rfl) dX9_redo_45 ?_
  refine jj_iload_n F dX9_redo_48 rfl ?_
  refine jj_iconst F (v := nI 1) dX9_redo_49 (by decide) ?_
  refine jj_zast F (by assumption) rfl (by omega) (by first | exact Or.inl rfl | exact Or.inr rfl | exact b2i_01 _ | assumption) dX9_redo_50 ?_
  refine jj_aload_n F dX9_redo_51 rfl ?_
  refine jj_getr F g32 (by assumption) (by rfl) dX9_redo_52 ?_
  refine jj_iload_n F dX9_redo_55 rfl ?_
  refine jj_iconst F (v := nI 0) dX9_redo_56 (by decide) ?_
  refine jj_iast F (by assumption) rfl (by omega) dX9_redo_57 ?_
  refine jj_iload_n F dX9_redo_58 rfl ?_
  refine ret _ _ _ _ dX9_redo_59 (by first | rfl | exact nar_z (by first | exact Or.inl rfl | exact Or.inr rfl | exact b2i_01 _ | assumption)) ?_
  refine ⟨rfl, RelM_ug (w := u0) hM (fun b hb => ?_) hu2 hu1 (fun i hi => ?_) rfl rfl (fun y h1 h2 h3 h4 => ?_) rfl, fun y hy => ?_, rfl, rfl⟩
  · rcases hb with rfl | rfl | rfl | rfl <;> rfl
  · have := hu3 i hi
    split <;> omega
  · rw [wA_n (by omega), wA_n (by omega), wA_n (by omega)]
  · rw [wA_n (by omega), wA_n (by omega), wA_n (by omega)]
set_option maxRecDepth 100000 in
set_option maxHeartbeats 1000000 in
theorem m_release_1 {l : Launch} {E : Ee} {M : Mm} {a : Ab} {W : Nat} (hM : RelM M a W) {x : Int32} (hw : wiB x (nI 0) (nI 4) = false) : CtI l E yX9_release (.code yX9_release cX9_release 3 (some .int) :: gl) ({ frames := 2, cells := 0, slots := 0, locals := 42 } : Room) M [.ref (E.2.2 478), .int x] 0 0 (fun r M2 => r = nI 0 ∧ RelM M2 a W ∧ Pub M M2 1) := by
  refine ctI_of (L0 := [some (.ref (E.2.2 478)), some (.int x), none]) (by decide) rfl (Nat.le_of_ble_eq_true rfl) rfl ?_
  intro Z hl hE hnl F ret
  subst hE
  have in_X9 : ∀ w ∈ u_ws RX9 TX9 33, w ∈ (.code yX9_release cX9_release 3 (some .int) :: gl) := fun w h => List.mem_cons_of_mem _ (lay_X9 w h)
  have g87 : FG Z 87 9 0 := fg_mk F (C := RX9) (T := TX9) (N := 33) in_X9 rfl (by decide) rfl (List.mem_cons_of_mem _ fk_X9_87)
  have p87 : FP Z 87 9 0 .int := fp_mk F (C := RX9) (T := TX9) (N := 33) in_X9 tyX9_ok nmX9 rfl (by decide) rfl (List.mem_cons_of_mem _ fk_X9_87) rfl (by decide +kernel)
  obtain ⟨⟨h60, ht, htk, hn, hop, hac, hun, hopk, ⟨u0, hu1, hu2, hu3⟩, C, hC, hCa⟩, ⟨hlk, hll, hlz⟩, hK, ⟨hln, hl40, htx⟩, L0, hL0⟩ := id hM
  have kM := kd_M
  have k479 := kd_479
  have k480 := kd_480
  have k481 := kd_481
  have k482 := kd_482
  have k483 := kd_483
  have k484 := kd_484
  have k485 := kd_485
  have k486 := kd_486
  have k487 := kd_487
  have k488 := kd_488
  have k489 := kd_489
  have k490 := kd_490
  have k491 := kd_491
  have k492 := kd_492
  have k493 := kd_493
  have k494 := kd_494
  have k495 := kd_495
  have k496 := kd_496
  have k497 := kd_497
  have k498 := kd_498
  have k499 := kd_499
  have k500 := kd_500
  have k501 := kd_501
  have k502 := kd_502
  have k503 := kd_503
  refine jj_aload_n F dX9_release_0 rfl ?_
  refine jj_iload_n F dX9_release_1 rfl ?_
  refine jj_callSi (na := 1) F c_X9_isUser (gl_S mk_X9_184 vw_X9_isUser) rfl rfl rfl (by decide +kernel) ⟨Nat.le_of_ble_eq_true rfl, Nat.le_of_ble_eq_true rfl⟩ rfl rfl (Nat.le_of_ble_eq_true rfl) ⟨Nat.le_of_ble_eq_true rfl, Nat.le_of_ble_eq_true rfl⟩ dX9_release_2 (fun r2 M2 hp2 => ?_)
  obtain ⟨rfl, rfl⟩ := symm2 hp2
  refine jj_if_eq F (tgt := 12) dX9_release_5 (by decide) (fun _ => ?_) (fun h9 => absurd (by rw [hw]; rfl) h9)
  refine jj_iconst F (v := nI 1) dX9_release_12 (by decide) ?_
  refine jj_puti F p87 (by assumption) (by rfl) dX9_release_13 ?_
  refine jj_aload_n F dX9_release_16 rfl ?_
  refine jj_geti F g87 (by assumption) (by rfl) dX9_release_17 ?_
  rw [thr_0]
  refine jj_if_le F (tgt := 25) dX9_release_20 (by decide) (fun h9 => absurd h9 (by decide)) (fun _ => ?_)
  refine jj_iconst F (v := nI 0) dX9_release_23 (by decide) ?_
  refine ret _ _ _ _ dX9_release_24 (by first | rfl | exact nar_z (by first | exact Or.inl rfl | exact Or.inr rfl | exact b2i_01 _ | assumption)) ?_
  exact ⟨rfl, RelM_thr hM, Pub_0⟩
set_option maxRecDepth 100000 in
set_option maxHeartbeats 1000000 in
theorem m_release_0 {l : Launch} {E : Ee} {M : Mm} {a : Ab} {W : Nat} (hM : RelM M a W) {u : Nat} (hu : u < 5) : CtI l E yX9_release (.code yX9_release cX9_release 3 (some .int) :: gl) ({ frames := 2, cells := 0, slots := 0, locals := 42 } : Room) M [.ref (E.2.2 478), .int (nI u)] 0 0 (fun r M2 => r = nI ((a_lk a).filter (fun z => decide (z.1 = u))).length ∧ RelM M2 (lkA a ((a_lk a).filter (fun z => !decide (z.1 = u)))) W ∧ Pub M M2 0) := by
  refine ctI_of (L0 := [some (.ref (E.2.2 478)), some (.int (nI u)), none]) (by decide) rfl (Nat.le_of_ble_eq_true rfl) rfl ?_
  intro Z hl hE hnl F ret
  subst hE
  have in_X9 : ∀ w ∈ u_ws RX9 TX9 33, w ∈ (.code yX9_release cX9_release 3 (some .int) :: gl) := fun w h => List.mem_cons_of_mem _ (lay_X9 w h)
  have g87 : FG Z 87 9 0 := fg_mk F (C := RX9) (T := TX9) (N := 33) in_X9 rfl (by decide) rfl (List.mem_cons_of_mem _ fk_X9_87)
  have p87 : FP Z 87 9 0 .int := fp_mk F (C := RX9) (T := TX9) (N := 33) in_X9 tyX9_ok nmX9 rfl (by decide) rfl (List.mem_cons_of_mem _ fk_X9_87) rfl (by decide +kernel)
  obtain ⟨⟨h60, ht, htk, hn, hop, hac, hun, hopk, ⟨u0, hu1, hu2, hu3⟩, C, hC, hCa⟩, ⟨hlk, hll, hlz⟩, hK, ⟨hln, hl40, htx⟩, L0, hL0⟩ := id hM
  have kM := kd_M
  have k479 := kd_479
  have k480 := kd_480
  have k481 := kd_481
  have k482 := kd_482
  have k483 := kd_483
  have k484 := kd_484
  have k485 := kd_485
  have k486 := kd_486
  have k487 := kd_487
  have k488 := kd_488
  have k489 := kd_489
  have k490 := kd_490
  have k491 := kd_491
  have k492 := kd_492
  have k493 := kd_493
  have k494 := kd_494
  have k495 := kd_495
  have k496 := kd_496
  have k497 := kd_497
  have k498 := kd_498
  have k499 := kd_499
  have k500 := kd_500
  have k501 := kd_501
  have k502 := kd_502
  have k503 := kd_503
  have hw := wi_ok (lo := 0) (c := u) (hi := 4) (by omega) (by omega) (by omega)
  have hmlh := ml_h hM.2.1
  refine jj_aload_n F dX9_release_0 rfl ?_
  refine jj_iload_n F dX9_release_1 rfl ?_
  refine jj_callSi (na := 1) F c_X9_isUser (gl_S mk_X9_184 vw_X9_isUser) rfl rfl rfl (by decide +kernel) ⟨Nat.le_of_ble_eq_true rfl, Nat.le_of_ble_eq_true rfl⟩ rfl rfl (Nat.le_of_ble_eq_true rfl) ⟨Nat.le_of_ble_eq_true rfl, Nat.le_of_ble_eq_true rfl⟩ dX9_release_2 (fun r2 M2 hp2 => ?_)
  obtain ⟨rfl, rfl⟩ := symm2 hp2
  refine jj_if_eq F (tgt := 12) dX9_release_5 (by decide) (fun h9 => absurd h9 (by rw [hw]; decide)) (fun _ => ?_)
  refine jj_iconst F (v := nI 0) dX9_release_8 (by decide) ?_
  refine jj_goto F (tgt := 13) dX9_release_9 (by decide) ?_
  refine jj_puti F p87 (by assumption) (by rfl) dX9_release_13 ?_
  refine jj_aload_n F dX9_release_16 rfl ?_
  refine jj_geti F g87 (by assumption) (by rfl) dX9_release_17 ?_
  rw [thr_0]
  refine jj_if_le F (tgt := 25) dX9_release_20 (by decide) (fun _ => ?_) (fun h9 => absurd (by decide) h9)
  refine jj_aload_n F dX9_release_25 rfl ?_
  refine jj_iload_n F dX9_release_26 rfl ?_
  refine jj_callVi (na := 1) F (c_X9_leasesOf (M := (thr M (nI 0))) (x := nI u) (q := (a_lk a).length) hll hlk.1) (gl_V mk_X9_238 vw_X9_leasesOf) rfl rfl rfl (by decide +kernel) ⟨Nat.le_of_ble_eq_true rfl, Nat.le_of_ble_eq_true rfl⟩ kM rfl rfl rfl (Nat.le_of_ble_eq_true rfl) ⟨Nat.le_of_ble_eq_true rfl, Nat.le_of_ble_eq_true rfl⟩ dX9_release_27 (fun r27 M27 hp27 => ?_)
  obtain ⟨rfl, rfl⟩ := symm2 hp27
  refine jj_istore_n F dX9_release_30 (by rw [hnl]; decide) ?_
  dsimp only [lq_st, lq_clr, lq_no]
  refine jj_aload_n F dX9_release_31 rfl ?_
  refine jj_iload_n F dX9_release_32 rfl ?_
  refine jj_callVv (na := 1) F (c_X9_dropLeases (M := (thr M (nI 0))) (t := a_t a) (lk := a_lk a) htk (by omega) hlk.1 hll (lkR_of hM.2.1) (fun z hz => ⟨(hlk.2 z hz).1, (hlk.2 z hz).2.2.2.2⟩)) (gl_V mk_X9_143 vw_X9_dropLeases) rfl rfl rfl (by decide +kernel) ⟨Nat.le_of_ble_eq_true rfl, Nat.le_of_ble_eq_true rfl⟩ kM rfl rfl rfl (Nat.le_of_ble_eq_true rfl) ⟨Nat.le_of_ble_eq_true rfl, Nat.le_of_ble_eq_true rfl⟩ dX9_release_33 (fun MD hpD => ?_)
  obtain ⟨f1, f2, f3, f4, rfl, hpD⟩ := hpD
  have hR9 := ml_drop (M := (thr M (nI 0))) hlk hpD
  refine jj_iload_n F dX9_release_36 rfl ?_
  refine ret _ _ _ _ dX9_release_37 (by first | rfl | exact nar_z (by first | exact Or.inl rfl | exact Or.inr rfl | exact b2i_01 _ | assumption)) ?_
  have h9 := RelM_tl (RelM_thr (x := nI 0) hM) (Nat.le_refl _) ht (by exact htk) (fun b hb => by rcases hb with rfl | rfl | rfl <;> rfl) (fun y h1 h2 h3 => by rw [wA_n (by omega), quad_o (by omega)]) (by rfl) hR9
  rw [show tlA a (a_t a) _ = lkA a ((a_lk a).filter (fun z => !decide (z.1 = u))) by unfold tlA lkA; rw [flt_u hlk hu]] at h9
  refine ⟨?_, h9, fun y hy => ?_, rfl, rfl⟩
  · rw [show fb_ct (fun j => decide ((thr M (nI 0)).1 488 j = nI u)) (a_lk a).length = ((a_lk a).filter (fun z => decide (z.1 = u))).length from ?_]
    rw [← ct_list (0, 0, 0, 0) (fun z => decide (z.1 = u)) (a_lk a)]
    refine fb_ct_cong (fun j hj => ?_)
    obtain ⟨q1, -, -, q4, -⟩ := hmlh j hj
    rw [show (thr M (nI 0)).1 488 j = nI (lkD (a_lk a) j).1 from q1, Bool.eq_iff_iff]
    simp only [decide_eq_true_eq]
    exact nI_eq (by omega) (by omega)
  · rw [wA_n (by omega), quad_o (by omega), wA_n (by omega)]
set_option maxRecDepth 100000 in
set_option maxHeartbeats 1000000 in
theorem m_lease_1a {l : Launch} {E : Ee} {M : Mm} {a : Ab} {W : Nat} (hM : RelM M a W) {x y z w : Int32} (hw : wiB x (nI 0) (nI 4) = false) : CtI l E yX9_lease (.code yX9_lease cX9_lease 5 (some .int) :: gl) ({ frames := 4, cells := 0, slots := 0, locals := 96 } : Room) M [.ref (E.2.2 478), .int x, .int y, .int z, .int w] 0 0 (fun r M2 => r = nI 0 ∧ RelM M2 a W ∧ Pub M M2 1) := by
  refine ctI_of (L0 := [some (.ref (E.2.2 478)), some (.int x), some (.int y), some (.int z), some (.int w)]) (by decide) rfl (Nat.le_of_ble_eq_true rfl) rfl ?_
  intro Z hl hE hnl F ret
  subst hE
  have in_X9 : ∀ w ∈ u_ws RX9 TX9 33, w ∈ (.code yX9_lease cX9_lease 5 (some .int) :: gl) := fun w h => List.mem_cons_of_mem _ (lay_X9 w h)
  have g39 : FG Z 39 9 14 := fg_mk F (C := RX9) (T := TX9) (N := 33) in_X9 rfl (by decide) rfl (List.mem_cons_of_mem _ fk_X9_39)
  have g42 : FG Z 42 9 15 := fg_mk F (C := RX9) (T := TX9) (N := 33) in_X9 rfl (by decide) rfl (List.mem_cons_of_mem _ fk_X9_42)
  have g45 : FG Z 45 9 16 := fg_mk F (C := RX9) (T := TX9) (N := 33) in_X9 rfl (by decide) rfl (List.mem_cons_of_mem _ fk_X9_45)
  have g48 : FG Z 48 9 17 := fg_mk F (C := RX9) (T := TX9) (N := 33) in_X9 rfl (by decide) rfl (List.mem_cons_of_mem _ fk_X9_48)
  have g87 : FG Z 87 9 0 := fg_mk F (C := RX9) (T := TX9) (N := 33) in_X9 rfl (by decide) rfl (List.mem_cons_of_mem _ fk_X9_87)
  have g126 : FG Z 126 9 1 := fg_mk F (C := RX9) (T := TX9) (N := 33) in_X9 rfl (by decide) rfl (List.mem_cons_of_mem _ fk_X9_126)
  have g136 : FG Z 136 9 13 := fg_mk F (C := RX9) (T := TX9) (N := 33) in_X9 rfl (by decide) rfl (List.mem_cons_of_mem _ fk_X9_136)
  have p87 : FP Z 87 9 0 .int := fp_mk F (C := RX9) (T := TX9) (N := 33) in_X9 tyX9_ok nmX9 rfl (by decide) rfl (List.mem_cons_of_mem _ fk_X9_87) rfl (by decide +kernel)
  have p136 : FP Z 136 9 13 .int := fp_mk F (C := RX9) (T := TX9) (N := 33) in_X9 tyX9_ok nmX9 rfl (by decide) rfl (List.mem_cons_of_mem _ fk_X9_136) rfl (by decide +kernel)
  obtain ⟨⟨h60, ht, htk, hn, hop, hac, hun, hopk, ⟨u0, hu1, hu2, hu3⟩, C, hC, hCa⟩, ⟨hlk, hll, hlz⟩, hK, ⟨hln, hl40, htx⟩, L0, hL0⟩ := id hM
  have kM := kd_M
  have k479 := kd_479
  have k480 := kd_480
  have k481 := kd_481
  have k482 := kd_482
  have k483 := kd_483
  have k484 := kd_484
  have k485 := kd_485
  have k486 := kd_486
  have k487 := kd_487
  have k488 := kd_488
  have k489 := kd_489
  have k490 := kd_490
  have k491 := kd_491
  have k492 := kd_492
  have k493 := kd_493
  have k494 := kd_494
  have k495 := kd_495
  have k496 := kd_496
  have k497 := kd_497
  have k498 := kd_498
  have k499 := kd_499
  have k500 := kd_500
  have k501 := kd_501
  have k502 := kd_502
  have k503 := kd_503
  refine jj_aload_n F dX9_lease_0 rfl ?_
  refine jj_iload_n F dX9_lease_1 rfl ?_
  refine jj_callSi (na := 1) F c_X9_isUser (gl_S mk_X9_184 vw_X9_isUser) rfl rfl rfl (by decide +kernel) ⟨Nat.le_of_ble_eq_true rfl, Nat.le_of_ble_eq_true rfl⟩ rfl rfl (Nat.le_of_ble_eq_true rfl) ⟨Nat.le_of_ble_eq_true rfl, Nat.le_of_ble_eq_true rfl⟩ dX9_lease_2 (fun r2 M2 hp2 => ?_)
  obtain ⟨rfl, rfl⟩ := symm2 hp2
  refine jj_if_eq F (tgt := 22) dX9_lease_5 (by decide) (fun _ => ?_) (fun h9 => absurd (by rw [hw]; rfl) h9)
  refine jj_iconst F (v := nI 1) dX9_lease_22 (by decide) ?_
  refine jj_goto F (tgt := 43) dX9_lease_23 (by decide) ?_
  refine jj_puti F p87 (by assumption) (by rfl) dX9_lease_43 ?_
  refine jj_aload_n F dX9_lease_46 rfl ?_
  refine jj_geti F g87 (by assumption) (by rfl) dX9_lease_47 ?_
  rw [thr_0]
  refine jj_if_le F (tgt := 55) dX9_lease_50 (by decide) (fun h9 => absurd h9 (by decide)) (fun _ => ?_)
  refine jj_iconst F (v := nI 0) dX9_lease_53 (by decide) ?_
  refine ret _ _ _ _ dX9_lease_54 (by first | rfl | exact nar_z (by first | exact Or.inl rfl | exact Or.inr rfl | exact b2i_01 _ | assumption)) ?_
  exact ⟨rfl, RelM_thr hM, Pub_0⟩
set_option maxRecDepth 100000 in
set_option maxHeartbeats 1000000 in
theorem m_lease_1b {l : Launch} {E : Ee} {M : Mm} {a : Ab} {W : Nat} (hM : RelM M a W) {u : Nat} {y z w : Int32} (hu : u < 5) (hy : wiB y (nI 0) (nI 255) = false) : CtI l E yX9_lease (.code yX9_lease cX9_lease 5 (some .int) :: gl) ({ frames := 4, cells := 0, slots := 0, locals := 96 } : Room) M [.ref (E.2.2 478), .int (nI u), .int y, .int z, .int w] 0 0 (fun r M2 => r = nI 0 ∧ RelM M2 a W ∧ Pub M M2 1) := by
  refine ctI_of (L0 := [some (.ref (E.2.2 478)), some (.int (nI u)), some (.int y), some (.int z), some (.int w)]) (by decide) rfl (Nat.le_of_ble_eq_true rfl) rfl ?_
  intro Z hl hE hnl F ret
  subst hE
  have in_X9 : ∀ w ∈ u_ws RX9 TX9 33, w ∈ (.code yX9_lease cX9_lease 5 (some .int) :: gl) := fun w h => List.mem_cons_of_mem _ (lay_X9 w h)
  have g39 : FG Z 39 9 14 := fg_mk F (C := RX9) (T := TX9) (N := 33) in_X9 rfl (by decide) rfl (List.mem_cons_of_mem _ fk_X9_39)
  have g42 : FG Z 42 9 15 := fg_mk F (C := RX9) (T := TX9) (N := 33) in_X9 rfl (by decide) rfl (List.mem_cons_of_mem _ fk_X9_42)
  have g45 : FG Z 45 9 16 := fg_mk F (C := RX9) (T := TX9) (N := 33) in_X9 rfl (by decide) rfl (List.mem_cons_of_mem _ fk_X9_45)
  have g48 : FG Z 48 9 17 := fg_mk F (C := RX9) (T := TX9) (N := 33) in_X9 rfl (by decide) rfl (List.mem_cons_of_mem _ fk_X9_48)
  have g87 : FG Z 87 9 0 := fg_mk F (C := RX9) (T := TX9) (N := 33) in_X9 rfl (by decide) rfl (List.mem_cons_of_mem _ fk_X9_87)
  have g126 : FG Z 126 9 1 := fg_mk F (C := RX9) (T := TX9) (N := 33) in_X9 rfl (by decide) rfl (List.mem_cons_of_mem _ fk_X9_126)
  have g136 : FG Z 136 9 13 := fg_mk F (C := RX9) (T := TX9) (N := 33) in_X9 rfl (by decide) rfl (List.mem_cons_of_mem _ fk_X9_136)
  have p87 : FP Z 87 9 0 .int := fp_mk F (C := RX9) (T := TX9) (N := 33) in_X9 tyX9_ok nmX9 rfl (by decide) rfl (List.mem_cons_of_mem _ fk_X9_87) rfl (by decide +kernel)
  have p136 : FP Z 136 9 13 .int := fp_mk F (C := RX9) (T := TX9) (N := 33) in_X9 tyX9_ok nmX9 rfl (by decide) rfl (List.mem_cons_of_mem _ fk_X9_136) rfl (by decide +kernel)
  obtain ⟨⟨h60, ht, htk, hn, hop, hac, hun, hopk, ⟨u0, hu1, hu2, hu3⟩, C, hC, hCa⟩, ⟨hlk, hll, hlz⟩, hK, ⟨hln, hl40, htx⟩, L0, hL0⟩ := id hM
  have kM := kd_M
  have k479 := kd_479
  have k480 := kd_480
  have k481 := kd_481
  have k482 := kd_482
  have k483 := kd_483
  have k484 := kd_484
  have k485 := kd_485
  have k486 := kd_486
  have k487 := kd_487
  have k488 := kd_488
  have k489 := kd_489
  have k490 := kd_490
  have k491 := kd_491
  have k492 := kd_492
  have k493 := kd_493
  have k494 := kd_494
  have k495 := kd_495
  have k496 := kd_496
  have k497 := kd_497
  have k498 := kd_498
  have k499 := kd_499
  have k500 := kd_500
  have k501 := kd_501
  have k502 := kd_502
  have k503 := kd_503
  have hw := wi_ok (lo := 0) (c := u) (hi := 4) (by omega) (by omega) (by omega)
  refine jj_aload_n F dX9_lease_0 rfl ?_
  refine jj_iload_n F dX9_lease_1 rfl ?_
  refine jj_callSi (na := 1) F c_X9_isUser (gl_S mk_X9_184 vw_X9_isUser) rfl rfl rfl (by decide +kernel) ⟨Nat.le_of_ble_eq_true rfl, Nat.le_of_ble_eq_true rfl⟩ rfl rfl (Nat.le_of_ble_eq_true rfl) ⟨Nat.le_of_ble_eq_true rfl, Nat.le_of_ble_eq_true rfl⟩ dX9_lease_2 (fun r2 M2 hp2 => ?_)
  obtain ⟨rfl, rfl⟩ := symm2 hp2
  refine jj_if_eq F (tgt := 22) dX9_lease_5 (by decide) (fun h9 => absurd h9 (by rw [hw]; decide)) (fun _ => ?_)
  refine jj_iload_n F dX9_lease_8 rfl ?_
  refine jj_callSi (na := 1) F c_X9_isCell (gl_S mk_X9_223 vw_X9_isCell) rfl rfl rfl (by decide +kernel) ⟨Nat.le_of_ble_eq_true rfl, Nat.le_of_ble_eq_true rfl⟩ rfl rfl (Nat.le_of_ble_eq_true rfl) ⟨Nat.le_of_ble_eq_true rfl, Nat.le_of_ble_eq_true rfl⟩ dX9_lease_9 (fun r9 M9 hp9 => ?_)
  obtain ⟨rfl, rfl⟩ := symm2 hp9
  refine jj_if_eq F (tgt := 22) dX9_lease_12 (by decide) (fun _ => ?_) (fun h9 => absurd (by rw [hy]; rfl) h9)
  refine jj_iconst F (v := nI 1) dX9_lease_22 (by decide) ?_
  refine jj_goto F (tgt := 43) dX9_lease_23 (by decide) ?_
  refine jj_puti F p87 (by assumption) (by rfl) dX9_lease_43 ?_
  refine jj_aload_n F dX9_lease_46 rfl ?_
  refine jj_geti F g87 (by assumption) (by rfl) dX9_lease_47 ?_
  rw [thr_0]
  refine jj_if_le F (tgt := 55) dX9_lease_50 (by decide) (fun h9 => absurd h9 (by decide)) (fun _ => ?_)
  refine jj_iconst F (v := nI 0) dX9_lease_53 (by decide) ?_
  refine ret _ _ _ _ dX9_lease_54 (by first | rfl | exact nar_z (by first | exact Or.inl rfl | exact Or.inr rfl | exact b2i_01 _ | assumption)) ?_
  exact ⟨rfl, RelM_thr hM, Pub_0⟩
set_option maxRecDepth 100000 in
set_option maxHeartbeats 1000000 in
theorem m_lease_1c {l : Launch} {E : Ee} {M : Mm} {a : Ab} {W : Nat} (hM : RelM M a W) {u f : Nat} {z w : Int32} (hu : u < 5) (hf : f < 256) (hz : wiB z (nI 0) (nI 255) = false) : CtI l E yX9_lease (.code yX9_lease cX9_lease 5 (some .int) :: gl) ({ frames := 4, cells := 0, slots := 0, locals := 96 } : Room) M [.ref (E.2.2 478), .int (nI u), .int (nI f), .int z, .int w] 0 0 (fun r M2 => r = nI 0 ∧ RelM M2 a W ∧ Pub M M2 1) := by
  refine ctI_of (L0 := [some (.ref (E.2.2 478)), some (.int (nI u)), some (.int (nI f)), some (.int z), some (.int w)]) (by decide) rfl (Nat.le_of_ble_eq_true rfl) rfl ?_
  intro Z hl hE hnl F ret
  subst hE
  have in_X9 : ∀ w ∈ u_ws RX9 TX9 33, w ∈ (.code yX9_lease cX9_lease 5 (some .int) :: gl) := fun w h => List.mem_cons_of_mem _ (lay_X9 w h)
  have g39 : FG Z 39 9 14 := fg_mk F (C := RX9) (T := TX9) (N := 33) in_X9 rfl (by decide) rfl (List.mem_cons_of_mem _ fk_X9_39)
  have g42 : FG Z 42 9 15 := fg_mk F (C := RX9) (T := TX9) (N := 33) in_X9 rfl (by decide) rfl (List.mem_cons_of_mem _ fk_X9_42)
  have g45 : FG Z 45 9 16 := fg_mk F (C := RX9) (T := TX9) (N := 33) in_X9 rfl (by decide) rfl (List.mem_cons_of_mem _ fk_X9_45)
  have g48 : FG Z 48 9 17 := fg_mk F (C := RX9) (T := TX9) (N := 33) in_X9 rfl (by decide) rfl (List.mem_cons_of_mem _ fk_X9_48)
  have g87 : FG Z 87 9 0 := fg_mk F (C := RX9) (T := TX9) (N := 33) in_X9 rfl (by decide) rfl (List.mem_cons_of_mem _ fk_X9_87)
  have g126 : FG Z 126 9 1 := fg_mk F (C := RX9) (T := TX9) (N := 33) in_X9 rfl (by decide) rfl (List.mem_cons_of_mem _ fk_X9_126)
  have g136 : FG Z 136 9 13 := fg_mk F (C := RX9) (T := TX9) (N := 33) in_X9 rfl (by decide) rfl (List.mem_cons_of_mem _ fk_X9_136)
  have p87 : FP Z 87 9 0 .int := fp_mk F (C := RX9) (T := TX9) (N := 33) in_X9 tyX9_ok nmX9 rfl (by decide) rfl (List.mem_cons_of_mem _ fk_X9_87) rfl (by decide +kernel)
  have p136 : FP Z 136 9 13 .int := fp_mk F (C := RX9) (T := TX9) (N := 33) in_X9 tyX9_ok nmX9 rfl (by decide) rfl (List.mem_cons_of_mem _ fk_X9_136) rfl (by decide +kernel)
  obtain ⟨⟨h60, ht, htk, hn, hop, hac, hun, hopk, ⟨u0, hu1, hu2, hu3⟩, C, hC, hCa⟩, ⟨hlk, hll, hlz⟩, hK, ⟨hln, hl40, htx⟩, L0, hL0⟩ := id hM
  have kM := kd_M
  have k479 := kd_479
  have k480 := kd_480
  have k481 := kd_481
  have k482 := kd_482
  have k483 := kd_483
  have k484 := kd_484
  have k485 := kd_485
  have k486 := kd_486
  have k487 := kd_487
  have k488 := kd_488
  have k489 := kd_489
  have k490 := kd_490
  have k491 := kd_491
  have k492 := kd_492
  have k493 := kd_493
  have k494 := kd_494
  have k495 := kd_495
  have k496 := kd_496
  have k497 := kd_497
  have k498 := kd_498
  have k499 := kd_499
  have k500 := kd_500
  have k501 := kd_501
  have k502 := kd_502
  have k503 := kd_503
  have hw := wi_ok (lo := 0) (c := u) (hi := 4) (by omega) (by omega) (by omega)
  have hy := wi_ok (lo := 0) (c := f) (hi := 255) (by omega) (by omega) (by omega)
  refine jj_aload_n F dX9_lease_0 rfl ?_
  refine jj_iload_n F dX9_lease_1 rfl ?_
  refine jj_callSi (na := 1) F c_X9_isUser (gl_S mk_X9_184 vw_X9_isUser) rfl rfl rfl (by decide +kernel) ⟨Nat.le_of_ble_eq_true rfl, Nat.le_of_ble_eq_true rfl⟩ rfl rfl (Nat.le_of_ble_eq_true rfl) ⟨Nat.le_of_ble_eq_true rfl, Nat.le_of_ble_eq_true rfl⟩ dX9_lease_2 (fun r2 M2 hp2 => ?_)
  obtain ⟨rfl, rfl⟩ := symm2 hp2
  refine jj_if_eq F (tgt := 22) dX9_lease_5 (by decide) (fun h9 => absurd h9 (by rw [hw]; decide)) (fun _ => ?_)
  refine jj_iload_n F dX9_lease_8 rfl ?_
  refine jj_callSi (na := 1) F c_X9_isCell (gl_S mk_X9_223 vw_X9_isCell) rfl rfl rfl (by decide +kernel) ⟨Nat.le_of_ble_eq_true rfl, Nat.le_of_ble_eq_true rfl⟩ rfl rfl (Nat.le_of_ble_eq_true rfl) ⟨Nat.le_of_ble_eq_true rfl, Nat.le_of_ble_eq_true rfl⟩ dX9_lease_9 (fun r9 M9 hp9 => ?_)
  obtain ⟨rfl, rfl⟩ := symm2 hp9
  refine jj_if_eq F (tgt := 22) dX9_lease_12 (by decide) (fun h9 => absurd h9 (by rw [hy]; decide)) (fun _ => ?_)
  refine jj_iload_n F dX9_lease_15 rfl ?_
  refine jj_callSi (na := 1) F c_X9_isCell (gl_S mk_X9_223 vw_X9_isCell) rfl rfl rfl (by decide +kernel) ⟨Nat.le_of_ble_eq_true rfl, Nat.le_of_ble_eq_true rfl⟩ rfl rfl (Nat.le_of_ble_eq_true rfl) ⟨Nat.le_of_ble_eq_true rfl, Nat.le_of_ble_eq_true rfl⟩ dX9_lease_16 (fun r16 M16 hp16 => ?_)
  obtain ⟨rfl, rfl⟩ := symm2 hp16
  refine jj_if_ne F (tgt := 26) dX9_lease_19 (by decide) (fun h9 => absurd h9 (fun z => z (by rw [hz]; rfl))) (fun _ => ?_)
  refine jj_iconst F (v := nI 1) dX9_lease_22 (by decide) ?_
  refine jj_goto F (tgt := 43) dX9_lease_23 (by decide) ?_
  refine jj_puti F p87 (by assumption) (by rfl) dX9_lease_43 ?_
  refine jj_aload_n F dX9_lease_46 rfl ?_
  refine jj_geti F g87 (by assumption) (by rfl) dX9_lease_47 ?_
  rw [thr_0]
  refine jj_if_le F (tgt := 55) dX9_lease_50 (by decide) (fun h9 => absurd h9 (by decide)) (fun _ => ?_)
  refine jj_iconst F (v := nI 0) dX9_lease_53 (by decide) ?_
  refine ret _ _ _ _ dX9_lease_54 (by first | rfl | exact nar_z (by first | exact Or.inl rfl | exact Or.inr rfl | exact b2i_01 _ | assumption)) ?_
  exact ⟨rfl, RelM_thr hM, Pub_0⟩
set_option maxRecDepth 100000 in
set_option maxHeartbeats 1000000 in
theorem m_lease_2 {l : Launch} {E : Ee} {M : Mm} {a : Ab} {W : Nat} (hM : RelM M a W) {u f g : Nat} {w : Int32} (hu : u < 5) (hf : f < 256) (hg : g < 256) (hv : wiB w (nI 1) (nI 999) = false) : CtI l E yX9_lease (.code yX9_lease cX9_lease 5 (some .int) :: gl) ({ frames := 4, cells := 0, slots := 0, locals := 96 } : Room) M [.ref (E.2.2 478), .int (nI u), .int (nI f), .int (nI g), .int w] 0 0 (fun r M2 => r = nI 0 ∧ RelM M2 a W ∧ Pub M M2 2) := by
  refine ctI_of (L0 := [some (.ref (E.2.2 478)), some (.int (nI u)), some (.int (nI f)), some (.int (nI g)), some (.int w)]) (by decide) rfl (Nat.le_of_ble_eq_true rfl) rfl ?_
  intro Z hl hE hnl F ret
  subst hE
  have in_X9 : ∀ w ∈ u_ws RX9 TX9 33, w ∈ (.code yX9_lease cX9_lease 5 (some .int) :: gl) := fun w h => List.mem_cons_of_mem _ (lay_X9 w h)
  have g39 : FG Z 39 9 14 := fg_mk F (C := RX9) (T := TX9) (N := 33) in_X9 rfl (by decide) rfl (List.mem_cons_of_mem _ fk_X9_39)
  have g42 : FG Z 42 9 15 := fg_mk F (C := RX9) (T := TX9) (N := 33) in_X9 rfl (by decide) rfl (List.mem_cons_of_mem _ fk_X9_42)
  have g45 : FG Z 45 9 16 := fg_mk F (C := RX9) (T := TX9) (N := 33) in_X9 rfl (by decide) rfl (List.mem_cons_of_mem _ fk_X9_45)
  have g48 : FG Z 48 9 17 := fg_mk F (C := RX9) (T := TX9) (N := 33) in_X9 rfl (by decide) rfl (List.mem_cons_of_mem _ fk_X9_48)
  have g87 : FG Z 87 9 0 := fg_mk F (C := RX9) (T := TX9) (N := 33) in_X9 rfl (by decide) rfl (List.mem_cons_of_mem _ fk_X9_87)
  have g126 : FG Z 126 9 1 := fg_mk F (C := RX9) (T := TX9) (N := 33) in_X9 rfl (by decide) rfl (List.mem_cons_of_mem _ fk_X9_126)
  have g136 : FG Z 136 9 13 := fg_mk F (C := RX9) (T := TX9) (N := 33) in_X9 rfl (by decide) rfl (List.mem_cons_of_mem _ fk_X9_136)
  have p87 : FP Z 87 9 0 .int := fp_mk F (C := RX9) (T := TX9) (N := 33) in_X9 tyX9_ok nmX9 rfl (by decide) rfl (List.mem_cons_of_mem _ fk_X9_87) rfl (by decide +kernel)
  have p136 : FP Z 136 9 13 .int := fp_mk F (C := RX9) (T := TX9) (N := 33) in_X9 tyX9_ok nmX9 rfl (by decide) rfl (List.mem_cons_of_mem _ fk_X9_136) rfl (by decide +kernel)
  obtain ⟨⟨h60, ht, htk, hn, hop, hac, hun, hopk, ⟨u0, hu1, hu2, hu3⟩, C, hC, hCa⟩, ⟨hlk, hll, hlz⟩, hK, ⟨hln, hl40, htx⟩, L0, hL0⟩ := id hM
  have kM := kd_M
  have k479 := kd_479
  have k480 := kd_480
  have k481 := kd_481
  have k482 := kd_482
  have k483 := kd_483
  have k484 := kd_484
  have k485 := kd_485
  have k486 := kd_486
  have k487 := kd_487
  have k488 := kd_488
  have k489 := kd_489
  have k490 := kd_490
  have k491 := kd_491
  have k492 := kd_492
  have k493 := kd_493
  have k494 := kd_494
  have k495 := kd_495
  have k496 := kd_496
  have k497 := kd_497
  have k498 := kd_498
  have k499 := kd_499
  have k500 := kd_500
  have k501 := kd_501
  have k502 := kd_502
  have k503 := kd_503
  have hw := wi_ok (lo := 0) (c := u) (hi := 4) (by omega) (by omega) (by omega)
  have hy := wi_ok (lo := 0) (c := f) (hi := 255) (by omega) (by omega) (by omega)
  have hz := wi_ok (lo := 0) (c := g) (hi := 255) (by omega) (by omega) (by omega)
  refine jj_aload_n F dX9_lease_0 rfl ?_
  refine jj_iload_n F dX9_lease_1 rfl ?_
  refine jj_callSi (na := 1) F c_X9_isUser (gl_S mk_X9_184 vw_X9_isUser) rfl rfl rfl (by decide +kernel) ⟨Nat.le_of_ble_eq_true rfl, Nat.le_of_ble_eq_true rfl⟩ rfl rfl (Nat.le_of_ble_eq_true rfl) ⟨Nat.le_of_ble_eq_true rfl, Nat.le_of_ble_eq_true rfl⟩ dX9_lease_2 (fun r2 M2 hp2 => ?_)
  obtain ⟨rfl, rfl⟩ := symm2 hp2
  refine jj_if_eq F (tgt := 22) dX9_lease_5 (by decide) (fun h9 => absurd h9 (by rw [hw]; decide)) (fun _ => ?_)
  refine jj_iload_n F dX9_lease_8 rfl ?_
  refine jj_callSi (na := 1) F c_X9_isCell (gl_S mk_X9_223 vw_X9_isCell) rfl rfl rfl (by decide +kernel) ⟨Nat.le_of_ble_eq_true rfl, Nat.le_of_ble_eq_true rfl⟩ rfl rfl (Nat.le_of_ble_eq_true rfl) ⟨Nat.le_of_ble_eq_true rfl, Nat.le_of_ble_eq_true rfl⟩ dX9_lease_9 (fun r9 M9 hp9 => ?_)
  obtain ⟨rfl, rfl⟩ := symm2 hp9
  refine jj_if_eq F (tgt := 22) dX9_lease_12 (by decide) (fun h9 => absurd h9 (by rw [hy]; decide)) (fun _ => ?_)
  refine jj_iload_n F dX9_lease_15 rfl ?_
  refine jj_callSi (na := 1) F c_X9_isCell (gl_S mk_X9_223 vw_X9_isCell) rfl rfl rfl (by decide +kernel) ⟨Nat.le_of_ble_eq_true rfl, Nat.le_of_ble_eq_true rfl⟩ rfl rfl (Nat.le_of_ble_eq_true rfl) ⟨Nat.le_of_ble_eq_true rfl, Nat.le_of_ble_eq_true rfl⟩ dX9_lease_16 (fun r16 M16 hp16 => ?_)
  obtain ⟨rfl, rfl⟩ := symm2 hp16
  refine jj_if_ne F (tgt := 26) dX9_lease_19 (by decide) (fun _ => ?_) (fun h9 => absurd h9 (by rw [hz]; decide))
  refine jj_iload F dX9_lease_26 rfl ?_
  refine jj_iconst F (v := nI 1) dX9_lease_28 (by decide) ?_
  refine jj_sipush F (v := nI 999) dX9_lease_29 (by decide) ?_
  refine jj_callSi (na := 3) F c_X9_within (gl_S mk_X9_91 vw_X9_within) rfl rfl rfl (by decide +kernel) ⟨Nat.le_of_ble_eq_true rfl, Nat.le_of_ble_eq_true rfl⟩ rfl rfl (Nat.le_of_ble_eq_true rfl) ⟨Nat.le_of_ble_eq_true rfl, Nat.le_of_ble_eq_true rfl⟩ dX9_lease_32 (fun r32 M32 hp32 => ?_)
  obtain ⟨rfl, rfl⟩ := symm2 hp32
  refine jj_if_eq F (tgt := 42) dX9_lease_35 (by decide) (fun _ => ?_) (fun h9 => absurd (by rw [hv]; rfl) h9)
  refine jj_iconst F (v := nI 2) dX9_lease_42 (by decide) ?_
  refine jj_puti F p87 (by assumption) (by rfl) dX9_lease_43 ?_
  refine jj_aload_n F dX9_lease_46 rfl ?_
  refine jj_geti F g87 (by assumption) (by rfl) dX9_lease_47 ?_
  rw [thr_0]
  refine jj_if_le F (tgt := 55) dX9_lease_50 (by decide) (fun h9 => absurd h9 (by decide)) (fun _ => ?_)
  refine jj_iconst F (v := nI 0) dX9_lease_53 (by decide) ?_
  refine ret _ _ _ _ dX9_lease_54 (by first | rfl | exact nar_z (by first | exact Or.inl rfl | exact Or.inr rfl | exact b2i_01 _ | assumption)) ?_
  exact ⟨rfl, RelM_thr hM, Pub_0⟩
set_option maxRecDepth 100000 in
set_option maxHeartbeats 1000000 in
theorem m_lease_0a {l : Launch} {E : Ee} {M : Mm} {a : Ab} {W : Nat} (hM : RelM M a W) {u f g k : Nat} (hu : u < 5) (hf : f < 256) (hg : g < 256) (hk1 : 1 ≤ k) (hk : k ≤ 999) (h6 : (a_lk a).length = 6) : CtI l E yX9_lease (.code yX9_lease cX9_lease 5 (some .int) :: gl) ({ frames := 4, cells := 0, slots := 0, locals := 96 } : Room) M [.ref (E.2.2 478), .int (nI u), .int (nI f), .int (nI g), .int (nI k)] 0 0 (fun r M2 => r = -1 ∧ RelM M2 a W ∧ Pub M M2 0) := by
  refine ctI_of (L0 := [some (.ref (E.2.2 478)), some (.int (nI u)), some (.int (nI f)), some (.int (nI g)), some (.int (nI k))]) (by decide) rfl (Nat.le_of_ble_eq_true rfl) rfl ?_
  intro Z hl hE hnl F ret
  subst hE
  have in_X9 : ∀ w ∈ u_ws RX9 TX9 33, w ∈ (.code yX9_lease cX9_lease 5 (some .int) :: gl) := fun w h => List.mem_cons_of_mem _ (lay_X9 w h)
  have g39 : FG Z 39 9 14 := fg_mk F (C := RX9) (T := TX9) (N := 33) in_X9 rfl (by decide) rfl (List.mem_cons_of_mem _ fk_X9_39)
  have g42 : FG Z 42 9 15 := fg_mk F (C := RX9) (T := TX9) (N := 33) in_X9 rfl (by decide) rfl (List.mem_cons_of_mem _ fk_X9_42)
  have g45 : FG Z 45 9 16 := fg_mk F (C := RX9) (T := TX9) (N := 33) in_X9 rfl (by decide) rfl (List.mem_cons_of_mem _ fk_X9_45)
  have g48 : FG Z 48 9 17 := fg_mk F (C := RX9) (T := TX9) (N := 33) in_X9 rfl (by decide) rfl (List.mem_cons_of_mem _ fk_X9_48)
  have g87 : FG Z 87 9 0 := fg_mk F (C := RX9) (T := TX9) (N := 33) in_X9 rfl (by decide) rfl (List.mem_cons_of_mem _ fk_X9_87)
  have g126 : FG Z 126 9 1 := fg_mk F (C := RX9) (T := TX9) (N := 33) in_X9 rfl (by decide) rfl (List.mem_cons_of_mem _ fk_X9_126)
  have g136 : FG Z 136 9 13 := fg_mk F (C := RX9) (T := TX9) (N := 33) in_X9 rfl (by decide) rfl (List.mem_cons_of_mem _ fk_X9_136)
  have p87 : FP Z 87 9 0 .int := fp_mk F (C := RX9) (T := TX9) (N := 33) in_X9 tyX9_ok nmX9 rfl (by decide) rfl (List.mem_cons_of_mem _ fk_X9_87) rfl (by decide +kernel)
  have p136 : FP Z 136 9 13 .int := fp_mk F (C := RX9) (T := TX9) (N := 33) in_X9 tyX9_ok nmX9 rfl (by decide) rfl (List.mem_cons_of_mem _ fk_X9_136) rfl (by decide +kernel)
  obtain ⟨⟨h60, ht, htk, hn, hop, hac, hun, hopk, ⟨u0, hu1, hu2, hu3⟩, C, hC, hCa⟩, ⟨hlk, hll, hlz⟩, hK, ⟨hln, hl40, htx⟩, L0, hL0⟩ := id hM
  have kM := kd_M
  have k479 := kd_479
  have k480 := kd_480
  have k481 := kd_481
  have k482 := kd_482
  have k483 := kd_483
  have k484 := kd_484
  have k485 := kd_485
  have k486 := kd_486
  have k487 := kd_487
  have k488 := kd_488
  have k489 := kd_489
  have k490 := kd_490
  have k491 := kd_491
  have k492 := kd_492
  have k493 := kd_493
  have k494 := kd_494
  have k495 := kd_495
  have k496 := kd_496
  have k497 := kd_497
  have k498 := kd_498
  have k499 := kd_499
  have k500 := kd_500
  have k501 := kd_501
  have k502 := kd_502
  have k503 := kd_503
  have hw := wi_ok (lo := 0) (c := u) (hi := 4) (by omega) (by omega) (by omega)
  have hy := wi_ok (lo := 0) (c := f) (hi := 255) (by omega) (by omega) (by omega)
  have hz := wi_ok (lo := 0) (c := g) (hi := 255) (by omega) (by omega) (by omega)
  have hv := wi_ok (lo := 1) (c := k) (hi := 999) (by omega) (by omega) (by omega)
  refine jj_aload_n F dX9_lease_0 rfl ?_
  refine jj_iload_n F dX9_lease_1 rfl ?_
  refine jj_callSi (na := 1) F c_X9_isUser (gl_S mk_X9_184 vw_X9_isUser) rfl rfl rfl (by decide +kernel) ⟨Nat.le_of_ble_eq_true rfl, Nat.le_of_ble_eq_true rfl⟩ rfl rfl (Nat.le_of_ble_eq_true rfl) ⟨Nat.le_of_ble_eq_true rfl, Nat.le_of_ble_eq_true rfl⟩ dX9_lease_2 (fun r2 M2 hp2 => ?_)
  obtain ⟨rfl, rfl⟩ := symm2 hp2
  refine jj_if_eq F (tgt := 22) dX9_lease_5 (by decide) (fun h9 => absurd h9 (by rw [hw]; decide)) (fun _ => ?_)
  refine jj_iload_n F dX9_lease_8 rfl ?_
  refine jj_callSi (na := 1) F c_X9_isCell (gl_S mk_X9_223 vw_X9_isCell) rfl rfl rfl (by decide +kernel) ⟨Nat.le_of_ble_eq_true rfl, Nat.le_of_ble_eq_true rfl⟩ rfl rfl (Nat.le_of_ble_eq_true rfl) ⟨Nat.le_of_ble_eq_true rfl, Nat.le_of_ble_eq_true rfl⟩ dX9_lease_9 (fun r9 M9 hp9 => ?_)
  obtain ⟨rfl, rfl⟩ := symm2 hp9
  refine jj_if_eq F (tgt := 22) dX9_lease_12 (by decide) (fun h9 => absurd h9 (by rw [hy]; decide)) (fun _ => ?_)
  refine jj_iload_n F dX9_lease_15 rfl ?_
  refine jj_callSi (na := 1) F c_X9_isCell (gl_S mk_X9_223 vw_X9_isCell) rfl rfl rfl (by decide +kernel) ⟨Nat.le_of_ble_eq_true rfl, Nat.le_of_ble_eq_true rfl⟩ rfl rfl (Nat.le_of_ble_eq_true rfl) ⟨Nat.le_of_ble_eq_true rfl, Nat.le_of_ble_eq_true rfl⟩ dX9_lease_16 (fun r16 M16 hp16 => ?_)
  obtain ⟨rfl, rfl⟩ := symm2 hp16
  refine jj_if_ne F (tgt := 26) dX9_lease_19 (by decide) (fun _ => ?_) (fun h9 => absurd h9 (by rw [hz]; decide))
  refine jj_iload F dX9_lease_26 rfl ?_
  refine jj_iconst F (v := nI 1) dX9_lease_28 (by decide) ?_
  refine jj_sipush F (v := nI 999) dX9_lease_29 (by decide) ?_
  refine jj_callSi (na := 3) F c_X9_within (gl_S mk_X9_91 vw_X9_within) rfl rfl rfl (by decide +kernel) ⟨Nat.le_of_ble_eq_true rfl, Nat.le_of_ble_eq_true rfl⟩ rfl rfl (Nat.le_of_ble_eq_true rfl) ⟨Nat.le_of_ble_eq_true rfl, Nat.le_of_ble_eq_true rfl⟩ dX9_lease_32 (fun r32 M32 hp32 => ?_)
  obtain ⟨rfl, rfl⟩ := symm2 hp32
  refine jj_if_eq F (tgt := 42) dX9_lease_35 (by decide) (fun h9 => absurd h9 (by rw [hv]; decide)) (fun _ => ?_)
  refine jj_iconst F (v := nI 0) dX9_lease_38 (by decide) ?_
  refine jj_goto F (tgt := 43) dX9_lease_39 (by decide) ?_
  refine jj_puti F p87 (by assumption) (by rfl) dX9_lease_43 ?_
  refine jj_aload_n F dX9_lease_46 rfl ?_
  refine jj_geti F g87 (by assumption) (by rfl) dX9_lease_47 ?_
  rw [thr_0]
  refine jj_if_le F (tgt := 55) dX9_lease_50 (by decide) (fun _ => ?_) (fun h9 => absurd (by decide) h9)
  refine jj_aload_n F dX9_lease_55 rfl ?_
  refine jj_geti F g136 (by assumption) (by rfl) dX9_lease_56 ?_
  refine jj_topi (show _ = nI (a_lk a).length from hll) ?_
  refine jj_bipush F (v := nI 6) dX9_lease_59 (by decide) ?_
  refine jj_icmp_ne F (tgt := 66) dX9_lease_61 (by decide) (fun h9 => absurd h9 (fun z => z (by rw [h6]))) (fun _ => ?_)
  refine jj_iconst F (v := -1) dX9_lease_64 (by decide) ?_
  refine ret _ _ _ _ dX9_lease_65 (by first | rfl | exact nar_z (by first | exact Or.inl rfl | exact Or.inr rfl | exact b2i_01 _ | assumption)) ?_
  exact ⟨rfl, RelM_thr hM, Pub_0⟩
theorem lg_thr {M : Mm} {x : Int32} : (thr M x).2 = M.2 := rfl
theorem RelM_lq {M M2 : Mm} {a : Ab} {W : Nat} (hM : RelM M a W) (h478 : ∀ b, b = 1 ∨ b = 2 ∨ b = 11 ∨ b = 13 ∨ b = 22 → M2.1 478 b = M.1 478 b) (hot : ∀ x, 479 ≤ x → x ≤ 496 → x ≠ 489 → x ≠ 490 → M2.1 x = M.1 x) (h489 : ∀ j, j < (a_lk a).length → M2.1 489 j = M.1 489 j) (h490 : ∀ j, j < (a_lk a).length → M2.1 490 j = M.1 490 j) (hs : M2.2 = M.2) : RelM M2 a W := by
  have hl : RelML M2 (a_t a) (a_lk a) := by
    obtain ⟨l1, l2, l3⟩ := hM.2.1
    refine ⟨l1, by rw [h478 13 (by simp)]; exact l2, fun j z hz => ?_⟩
    have hj : j < (a_lk a).length := (List.getElem?_eq_some_iff.mp hz).1
    rw [hot 488 (by omega) (by omega) (by omega) (by omega), h489 j hj, h490 j hj, hot 491 (by omega) (by omega) (by omega) (by omega)]
    exact l3 j z hz
  have := RelM_tl (t := a_t a) (l := a_lk a) hM (Nat.le_refl _) hM.1.2.1 (by rw [h478 1 (by simp)]; exact hM.1.2.2.1) (fun b hb => h478 b (by omega)) (fun x h1 h2 h3 => hot x h1 h2 (by omega) (by omega)) hs hl
  exact this
theorem RelML_add {M M2 : Mm} {t u f g k : Nat} {lk : List Lz} (h : RelML M t lk) (h6 : lk.length < 6) (ht : t ≤ 100000) (hu : u < 5) (hf : f < 256) (hg : g < 256) (hk1 : 1 ≤ k) (hk : k ≤ 999) (h13 : M2.1 478 13 = nI (lk.length + 1)) (h488 : M2.1 488 = upd (M.1 488) lk.length (nI u)) (h489 : M2.1 489 = upd (M.1 489) lk.length (nI f)) (h490 : M2.1 490 = upd (M.1 490) lk.length (nI g)) (h491 : M2.1 491 = upd (M.1 491) lk.length (nI (t + k))) : RelML M2 t (lk ++ [(u, f, g, t + k)]) := by
  obtain ⟨l1, l2, l3⟩ := h
  refine ⟨⟨by rw [List.length_append, List.length_singleton]; omega, fun z hz => ?_⟩, by rw [List.length_append, List.length_singleton]; exact h13, fun j z hz => ?_⟩
  · rcases List.mem_append.mp hz with q | q
    · exact l1.2 z q
    · rw [List.mem_singleton.mp q]
      exact ⟨hu, hf, hg, by show t < t + k; omega, by show t + k < 200000; omega⟩
  · rw [h488, h489, h490, h491]
    by_cases q : j = lk.length
    · subst q
      rw [List.getElem?_append_right (Nat.le_refl _), Nat.sub_self] at hz
      cases hz
      simp [upd]
    · have hj : j < lk.length := by
        have := (List.getElem?_eq_some_iff.mp hz).1
        rw [List.length_append, List.length_singleton] at this
        omega
      rw [List.getElem?_append_left hj] at hz
      simp only [upd, if_neg q]
      exact l3 j z hz
/-- the area meets a closed one -/
def lsB (a : Ab) (u f g : Nat) : Bool := exB 256 (fun c => rect f g c && clo (a_lk a) u c)
theorem upd_o {f : Nat → Int32} {k j : Nat} {v : Int32} (h : j ≠ k) : upd f k v j = f j := by simp [upd, h]
theorem upd_k {f : Nat → Int32} {k : Nat} {v : Int32} : upd f k v k = v := by simp [upd]
set_option maxRecDepth 100000 in
set_option maxHeartbeats 1000000 in
theorem m_lease_0b {l : Launch} {E : Ee} {M : Mm} {a : Ab} {W : Nat} (hM : RelM M a W) {u f g k : Nat} (hu : u < 5) (hf : f < 256) (hg : g < 256) (hk1 : 1 ≤ k) (hk : k ≤ 999) (h6 : (a_lk a).length < 6) (hls : lsB a u f g = true) : CtI l E yX9_lease (.code yX9_lease cX9_lease 5 (some .int) :: gl) ({ frames := 4, cells := 0, slots := 0, locals := 96 } : Room) M [.ref (E.2.2 478), .int (nI u), .int (nI f), .int (nI g), .int (nI k)] 0 0 (fun r M2 => r = -1 ∧ RelM M2 a W ∧ Pub M M2 0) := by
  refine ctI_of (L0 := [some (.ref (E.2.2 478)), some (.int (nI u)), some (.int (nI f)), some (.int (nI g)), some (.int (nI k))]) (by decide) rfl (Nat.le_of_ble_eq_true rfl) rfl ?_
  intro Z hl hE hnl F ret
  subst hE
  have in_X9 : ∀ w ∈ u_ws RX9 TX9 33, w ∈ (.code yX9_lease cX9_lease 5 (some .int) :: gl) := fun w h => List.mem_cons_of_mem _ (lay_X9 w h)
  have g39 : FG Z 39 9 14 := fg_mk F (C := RX9) (T := TX9) (N := 33) in_X9 rfl (by decide) rfl (List.mem_cons_of_mem _ fk_X9_39)
  have g42 : FG Z 42 9 15 := fg_mk F (C := RX9) (T := TX9) (N := 33) in_X9 rfl (by decide) rfl (List.mem_cons_of_mem _ fk_X9_42)
  have g45 : FG Z 45 9 16 := fg_mk F (C := RX9) (T := TX9) (N := 33) in_X9 rfl (by decide) rfl (List.mem_cons_of_mem _ fk_X9_45)
  have g48 : FG Z 48 9 17 := fg_mk F (C := RX9) (T := TX9) (N := 33) in_X9 rfl (by decide) rfl (List.mem_cons_of_mem _ fk_X9_48)
  have g87 : FG Z 87 9 0 := fg_mk F (C := RX9) (T := TX9) (N := 33) in_X9 rfl (by decide) rfl (List.mem_cons_of_mem _ fk_X9_87)
  have g126 : FG Z 126 9 1 := fg_mk F (C := RX9) (T := TX9) (N := 33) in_X9 rfl (by decide) rfl (List.mem_cons_of_mem _ fk_X9_126)
  have g136 : FG Z 136 9 13 := fg_mk F (C := RX9) (T := TX9) (N := 33) in_X9 rfl (by decide) rfl (List.mem_cons_of_mem _ fk_X9_136)
  have p87 : FP Z 87 9 0 .int := fp_mk F (C := RX9) (T := TX9) (N := 33) in_X9 tyX9_ok nmX9 rfl (by decide) rfl (List.mem_cons_of_mem _ fk_X9_87) rfl (by decide +kernel)
  have p136 : FP Z 136 9 13 .int := fp_mk F (C := RX9) (T := TX9) (N := 33) in_X9 tyX9_ok nmX9 rfl (by decide) rfl (List.mem_cons_of_mem _ fk_X9_136) rfl (by decide +kernel)
  obtain ⟨⟨h60, ht, htk, hn, hop, hac, hun, hopk, ⟨u0, hu1, hu2, hu3⟩, C, hC, hCa⟩, ⟨hlk, hll, hlz⟩, hK, ⟨hln, hl40, htx⟩, L0, hL0⟩ := id hM
  have kM := kd_M
  have k479 := kd_479
  have k480 := kd_480
  have k481 := kd_481
  have k482 := kd_482
  have k483 := kd_483
  have k484 := kd_484
  have k485 := kd_485
  have k486 := kd_486
  have k487 := kd_487
  have k488 := kd_488
  have k489 := kd_489
  have k490 := kd_490
  have k491 := kd_491
  have k492 := kd_492
  have k493 := kd_493
  have k494 := kd_494
  have k495 := kd_495
  have k496 := kd_496
  have k497 := kd_497
  have k498 := kd_498
  have k499 := kd_499
  have k500 := kd_500
  have k501 := kd_501
  have k502 := kd_502
  have k503 := kd_503
  have hw := wi_ok (lo := 0) (c := u) (hi := 4) (by omega) (by omega) (by omega)
  have hy := wi_ok (lo := 0) (c := f) (hi := 255) (by omega) (by omega) (by omega)
  have hz := wi_ok (lo := 0) (c := g) (hi := 255) (by omega) (by omega) (by omega)
  have hv := wi_ok (lo := 1) (c := k) (hi := 999) (by omega) (by omega) (by omega)
  have hmlh := ml_h hM.2.1
  have hlz9 : ∀ j, j < (a_lk a).length → (wA (wA (thr M (nI 0)) 489 (upd ((thr M (nI 0)).1 489) (a_lk a).length (nI f))) 490 (upd ((wA (thr M (nI 0)) 489 (upd ((thr M (nI 0)).1 489) (a_lk a).length (nI f))).1 490) (a_lk a).length (nI g))).1 488 j = nI (lkD (a_lk a) j).1 ∧ (wA (wA (thr M (nI 0)) 489 (upd ((thr M (nI 0)).1 489) (a_lk a).length (nI f))) 490 (upd ((wA (thr M (nI 0)) 489 (upd ((thr M (nI 0)).1 489) (a_lk a).length (nI f))).1 490) (a_lk a).length (nI g))).1 489 j = nI (lkD (a_lk a) j).2.1 ∧ (wA (wA (thr M (nI 0)) 489 (upd ((thr M (nI 0)).1 489) (a_lk a).length (nI f))) 490 (upd ((wA (thr M (nI 0)) 489 (upd ((thr M (nI 0)).1 489) (a_lk a).length (nI f))).1 490) (a_lk a).length (nI g))).1 490 j = nI (lkD (a_lk a) j).2.2.1 ∧ (lkD (a_lk a) j).1 < 5 ∧ (lkD (a_lk a) j).2.1 < 256 ∧ (lkD (a_lk a) j).2.2.1 < 256 := fun j hj => by
    obtain ⟨q1, q2, q3, q4⟩ := hmlh j hj
    refine ⟨q1, ?_, ?_, q4⟩
    · rw [wA_1n (by decide), wA_1s, upd_o (by omega)]; exact q2
    · rw [wA_1s, upd_o (by omega)]; exact q3
  have hf9 : (wA (wA (thr M (nI 0)) 489 (upd ((thr M (nI 0)).1 489) (a_lk a).length (nI f))) 490 (upd ((wA (thr M (nI 0)) 489 (upd ((thr M (nI 0)).1 489) (a_lk a).length (nI f))).1 490) (a_lk a).length (nI g))).1 489 (a_lk a).length = nI f := by rw [wA_1n (by decide), wA_1s, upd_k]
  have hg9 : (wA (wA (thr M (nI 0)) 489 (upd ((thr M (nI 0)).1 489) (a_lk a).length (nI f))) 490 (upd ((wA (thr M (nI 0)) 489 (upd ((thr M (nI 0)).1 489) (a_lk a).length (nI f))).1 490) (a_lk a).length (nI g))).1 490 (a_lk a).length = nI g := by rw [wA_1s, upd_k]
  refine jj_aload_n F dX9_lease_0 rfl ?_
  refine jj_iload_n F dX9_lease_1 rfl ?_
  refine jj_callSi (na := 1) F c_X9_isUser (gl_S mk_X9_184 vw_X9_isUser) rfl rfl rfl (by decide +kernel) ⟨Nat.le_of_ble_eq_true rfl, Nat.le_of_ble_eq_true rfl⟩ rfl rfl (Nat.le_of_ble_eq_true rfl) ⟨Nat.le_of_ble_eq_true rfl, Nat.le_of_ble_eq_true rfl⟩ dX9_lease_2 (fun r2 M2 hp2 => ?_)
  obtain ⟨rfl, rfl⟩ := symm2 hp2
  refine jj_if_eq F (tgt := 22) dX9_lease_5 (by decide) (fun h9 => absurd h9 (by rw [hw]; decide)) (fun _ => ?_)
  refine jj_iload_n F dX9_lease_8 rfl ?_
  refine jj_callSi (na := 1) F c_X9_isCell (gl_S mk_X9_223 vw_X9_isCell) rfl rfl rfl (by decide +kernel) ⟨Nat.le_of_ble_eq_true rfl, Nat.le_of_ble_eq_true rfl⟩ rfl rfl (Nat.le_of_ble_eq_true rfl) ⟨Nat.le_of_ble_eq_true rfl, Nat.le_of_ble_eq_true rfl⟩ dX9_lease_9 (fun r9 M9 hp9 => ?_)
  obtain ⟨rfl, rfl⟩ := symm2 hp9
  refine jj_if_eq F (tgt := 22) dX9_lease_12 (by decide) (fun h9 => absurd h9 (by rw [hy]; decide)) (fun _ => ?_)
  refine jj_iload_n F dX9_lease_15 rfl ?_
  refine jj_callSi (na := 1) F c_X9_isCell (gl_S mk_X9_223 vw_X9_isCell) rfl rfl rfl (by decide +kernel) ⟨Nat.le_of_ble_eq_true rfl, Nat.le_of_ble_eq_true rfl⟩ rfl rfl (Nat.le_of_ble_eq_true rfl) ⟨Nat.le_of_ble_eq_true rfl, Nat.le_of_ble_eq_true rfl⟩ dX9_lease_16 (fun r16 M16 hp16 => ?_)
  obtain ⟨rfl, rfl⟩ := symm2 hp16
  refine jj_if_ne F (tgt := 26) dX9_lease_19 (by decide) (fun _ => ?_) (fun h9 => absurd h9 (by rw [hz]; decide))
  refine jj_iload F dX9_lease_26 rfl ?_
  refine jj_iconst F (v := nI 1) dX9_lease_28 (by decide) ?_
  refine jj_sipush F (v := nI 999) dX9_lease_29 (by decide) ?_
  refine jj_callSi (na := 3) F c_X9_within (gl_S mk_X9_91 vw_X9_within) rfl rfl rfl (by decide +kernel) ⟨Nat.le_of_ble_eq_true rfl, Nat.le_of_ble_eq_true rfl⟩ rfl rfl (Nat.le_of_ble_eq_true rfl) ⟨Nat.le_of_ble_eq_true rfl, Nat.le_of_ble_eq_true rfl⟩ dX9_lease_32 (fun r32 M32 hp32 => ?_)
  obtain ⟨rfl, rfl⟩ := symm2 hp32
  refine jj_if_eq F (tgt := 42) dX9_lease_35 (by decide) (fun h9 => absurd h9 (by rw [hv]; decide)) (fun _ => ?_)
  refine jj_iconst F (v := nI 0) dX9_lease_38 (by decide) ?_
  refine jj_goto F (tgt := 43) dX9_lease_39 (by decide) ?_
  refine jj_puti F p87 (by assumption) (by rfl) dX9_lease_43 ?_
  refine jj_aload_n F dX9_lease_46 rfl ?_
  refine jj_geti F g87 (by assumption) (by rfl) dX9_lease_47 ?_
  rw [thr_0]
  refine jj_if_le F (tgt := 55) dX9_lease_50 (by decide) (fun _ => ?_) (fun h9 => absurd (by decide) h9)
  refine jj_aload_n F dX9_lease_55 rfl ?_
  refine jj_geti F g136 (by assumption) (by rfl) dX9_lease_56 ?_
  refine jj_topi (show _ = nI (a_lk a).length from hll) ?_
  refine jj_bipush F (v := nI 6) dX9_lease_59 (by decide) ?_
  refine jj_icmp_ne F (tgt := 66) dX9_lease_61 (by decide) (fun _ => ?_) (fun h9 => absurd h9 (fun z => by have := (nI_eq (b := 6) (by omega) (by omega)).mp z; omega))
  refine jj_aload_n F dX9_lease_66 rfl ?_
  refine jj_getr F g42 (by assumption) (by rfl) dX9_lease_67 ?_
  refine jj_aload_n F dX9_lease_70 rfl ?_
  refine jj_geti F g136 (by assumption) (by rfl) dX9_lease_71 ?_
  refine jj_topi (show _ = nI (a_lk a).length from hll) ?_
  refine jj_iload_n F dX9_lease_74 rfl ?_
  refine jj_iast F (by assumption) rfl (by omega) dX9_lease_75 ?_
  refine jj_aload_n F dX9_lease_76 rfl ?_
  refine jj_getr F g45 (by assumption) (by rfl) dX9_lease_77 ?_
  refine jj_aload_n F dX9_lease_80 rfl ?_
  refine jj_geti F g136 (by assumption) (by rfl) dX9_lease_81 ?_
  refine jj_topi (show _ = nI (a_lk a).length from hll) ?_
  refine jj_iload_n F dX9_lease_84 rfl ?_
  refine jj_iast F (by assumption) rfl (by omega) dX9_lease_85 ?_
  refine jj_aload_n F dX9_lease_86 rfl ?_
  refine jj_iload_n F dX9_lease_87 rfl ?_
  refine jj_callVi (na := 1) F (c_X9_mayLease (M := (wA (wA (thr M (nI 0)) 489 (upd ((thr M (nI 0)).1 489) (a_lk a).length (nI f))) 490 (upd ((wA (thr M (nI 0)) 489 (upd ((thr M (nI 0)).1 489) (a_lk a).length (nI f))).1 490) (a_lk a).length (nI g)))) (q := (a_lk a).length) (us := fun j => (lkD (a_lk a) j).1) (fa := fun j => (lkD (a_lk a) j).2.1) (la := fun j => (lkD (a_lk a) j).2.2.1) (x := nI u) (f0 := f) (l0 := g) hll h6 hlz9 hf9 hg9 hf hg) (gl_V mk_X9_235 vw_X9_mayLease) rfl rfl rfl (by decide +kernel) ⟨Nat.le_of_ble_eq_true rfl, Nat.le_of_ble_eq_true rfl⟩ kM rfl rfl rfl (Nat.le_of_ble_eq_true rfl) ⟨Nat.le_of_ble_eq_true rfl, Nat.le_of_ble_eq_true rfl⟩ dX9_lease_88 (fun r88 M88 hp88 => ?_)
  obtain ⟨rfl, rfl⟩ := symm2 hp88
  have hm9 : (!exB 256 (fun c => rect f g c && exB (a_lk a).length (fun j => !decide ((wA (wA (thr M (nI 0)) 489 (upd ((thr M (nI 0)).1 489) (a_lk a).length (nI f))) 490 (upd ((wA (thr M (nI 0)) 489 (upd ((thr M (nI 0)).1 489) (a_lk a).length (nI f))).1 490) (a_lk a).length (nI g))).1 488 j = nI u) && rect (lkD (a_lk a) j).2.1 (lkD (a_lk a) j).2.2.1 c))) = false := by
    rw [exB_cong (fun c _ => by rw [show exB (a_lk a).length (fun j => !decide ((wA (wA (thr M (nI 0)) 489 (upd ((thr M (nI 0)).1 489) (a_lk a).length (nI f))) 490 (upd ((wA (thr M (nI 0)) 489 (upd ((thr M (nI 0)).1 489) (a_lk a).length (nI f))).1 490) (a_lk a).length (nI g))).1 488 j = nI u) && rect (lkD (a_lk a) j).2.1 (lkD (a_lk a) j).2.2.1 c) = clo (a_lk a) u c from clo_ex (M := M) hM.2.1 (by omega)])]
    show (!lsB a u f g) = _
    rw [hls]
    rfl
  refine jj_if_ne F (tgt := 96) dX9_lease_91 (by decide) (fun h9 => absurd h9 (fun z => z (by rw [hm9]; rfl))) (fun _ => ?_)
  refine jj_iconst F (v := -1) dX9_lease_94 (by decide) ?_
  refine ret _ _ _ _ dX9_lease_95 (by first | rfl | exact nar_z (by first | exact Or.inl rfl | exact Or.inr rfl | exact b2i_01 _ | assumption)) ?_
  refine ⟨rfl, RelM_lq hM (fun b hb => ?_) (fun y h1 h2 h3 h4 => ?_) (fun j hj => ?_) (fun j hj => ?_) rfl, fun y hy => ?_, rfl, rfl⟩
  · rcases hb with rfl | rfl | rfl | rfl | rfl <;> rfl
  · rw [wA_n (by omega), wA_n (by omega), wA_n (by omega)]
  · rw [wA_1n (by decide), wA_1s, upd_o (by omega)]
    rfl
  · rw [wA_1s, upd_o (by omega)]
    rfl
  · rw [wA_n (by omega), wA_n (by omega), wA_n (by omega)]
set_option maxRecDepth 100000 in
set_option maxHeartbeats 1000000 in
theorem m_lease_0c {l : Launch} {E : Ee} {M : Mm} {a : Ab} {W : Nat} (hM : RelM M a W) {u f g k : Nat} (hu : u < 5) (hf : f < 256) (hg : g < 256) (hk1 : 1 ≤ k) (hk : k ≤ 999) (h6 : (a_lk a).length < 6) (hls : lsB a u f g = false) : CtI l E yX9_lease (.code yX9_lease cX9_lease 5 (some .int) :: gl) ({ frames := 4, cells := 0, slots := 0, locals := 96 } : Room) M [.ref (E.2.2 478), .int (nI u), .int (nI f), .int (nI g), .int (nI k)] 0 0 (fun r M2 => r = nI ((a_lk a).length + 1) ∧ RelM M2 (lkA a (a_lk a ++ [(u, f, g, a_t a + k)])) W ∧ Pub M M2 0) := by
  refine ctI_of (L0 := [some (.ref (E.2.2 478)), some (.int (nI u)), some (.int (nI f)), some (.int (nI g)), some (.int (nI k))]) (by decide) rfl (Nat.le_of_ble_eq_true rfl) rfl ?_
  intro Z hl hE hnl F ret
  subst hE
  have in_X9 : ∀ w ∈ u_ws RX9 TX9 33, w ∈ (.code yX9_lease cX9_lease 5 (some .int) :: gl) := fun w h => List.mem_cons_of_mem _ (lay_X9 w h)
  have g39 : FG Z 39 9 14 := fg_mk F (C := RX9) (T := TX9) (N := 33) in_X9 rfl (by decide) rfl (List.mem_cons_of_mem _ fk_X9_39)
  have g42 : FG Z 42 9 15 := fg_mk F (C := RX9) (T := TX9) (N := 33) in_X9 rfl (by decide) rfl (List.mem_cons_of_mem _ fk_X9_42)
  have g45 : FG Z 45 9 16 := fg_mk F (C := RX9) (T := TX9) (N := 33) in_X9 rfl (by decide) rfl (List.mem_cons_of_mem _ fk_X9_45)
  have g48 : FG Z 48 9 17 := fg_mk F (C := RX9) (T := TX9) (N := 33) in_X9 rfl (by decide) rfl (List.mem_cons_of_mem _ fk_X9_48)
  have g87 : FG Z 87 9 0 := fg_mk F (C := RX9) (T := TX9) (N := 33) in_X9 rfl (by decide) rfl (List.mem_cons_of_mem _ fk_X9_87)
  have g126 : FG Z 126 9 1 := fg_mk F (C := RX9) (T := TX9) (N := 33) in_X9 rfl (by decide) rfl (List.mem_cons_of_mem _ fk_X9_126)
  have g136 : FG Z 136 9 13 := fg_mk F (C := RX9) (T := TX9) (N := 33) in_X9 rfl (by decide) rfl (List.mem_cons_of_mem _ fk_X9_136)
  have p87 : FP Z 87 9 0 .int := fp_mk F (C := RX9) (T := TX9) (N := 33) in_X9 tyX9_ok nmX9 rfl (by decide) rfl (List.mem_cons_of_mem _ fk_X9_87) rfl (by decide +kernel)
  have p136 : FP Z 136 9 13 .int := fp_mk F (C := RX9) (T := TX9) (N := 33) in_X9 tyX9_ok nmX9 rfl (by decide) rfl (List.mem_cons_of_mem _ fk_X9_136) rfl (by decide +kernel)
  obtain ⟨⟨h60, ht, htk, hn, hop, hac, hun, hopk, ⟨u0, hu1, hu2, hu3⟩, C, hC, hCa⟩, ⟨hlk, hll, hlz⟩, hK, ⟨hln, hl40, htx⟩, L0, hL0⟩ := id hM
  have kM := kd_M
  have k479 := kd_479
  have k480 := kd_480
  have k481 := kd_481
  have k482 := kd_482
  have k483 := kd_483
  have k484 := kd_484
  have k485 := kd_485
  have k486 := kd_486
  have k487 := kd_487
  have k488 := kd_488
  have k489 := kd_489
  have k490 := kd_490
  have k491 := kd_491
  have k492 := kd_492
  have k493 := kd_493
  have k494 := kd_494
  have k495 := kd_495
  have k496 := kd_496
  have k497 := kd_497
  have k498 := kd_498
  have k499 := kd_499
  have k500 := kd_500
  have k501 := kd_501
  have k502 := kd_502
  have k503 := kd_503
  have hw := wi_ok (lo := 0) (c := u) (hi := 4) (by omega) (by omega) (by omega)
  have hy := wi_ok (lo := 0) (c := f) (hi := 255) (by omega) (by omega) (by omega)
  have hz := wi_ok (lo := 0) (c := g) (hi := 255) (by omega) (by omega) (by omega)
  have hv := wi_ok (lo := 1) (c := k) (hi := 999) (by omega) (by omega) (by omega)
  have hmlh := ml_h hM.2.1
  have hlz9 : ∀ j, j < (a_lk a).length → (wA (wA (thr M (nI 0)) 489 (upd ((thr M (nI 0)).1 489) (a_lk a).length (nI f))) 490 (upd ((wA (thr M (nI 0)) 489 (upd ((thr M (nI 0)).1 489) (a_lk a).length (nI f))).1 490) (a_lk a).length (nI g))).1 488 j = nI (lkD (a_lk a) j).1 ∧ (wA (wA (thr M (nI 0)) 489 (upd ((thr M (nI 0)).1 489) (a_lk a).length (nI f))) 490 (upd ((wA (thr M (nI 0)) 489 (upd ((thr M (nI 0)).1 489) (a_lk a).length (nI f))).1 490) (a_lk a).length (nI g))).1 489 j = nI (lkD (a_lk a) j).2.1 ∧ (wA (wA (thr M (nI 0)) 489 (upd ((thr M (nI 0)).1 489) (a_lk a).length (nI f))) 490 (upd ((wA (thr M (nI 0)) 489 (upd ((thr M (nI 0)).1 489) (a_lk a).length (nI f))).1 490) (a_lk a).length (nI g))).1 490 j = nI (lkD (a_lk a) j).2.2.1 ∧ (lkD (a_lk a) j).1 < 5 ∧ (lkD (a_lk a) j).2.1 < 256 ∧ (lkD (a_lk a) j).2.2.1 < 256 := fun j hj => by
    obtain ⟨q1, q2, q3, q4⟩ := hmlh j hj
    refine ⟨q1, ?_, ?_, q4⟩
    · rw [wA_1n (by decide), wA_1s, upd_o (by omega)]; exact q2
    · rw [wA_1s, upd_o (by omega)]; exact q3
  have hf9 : (wA (wA (thr M (nI 0)) 489 (upd ((thr M (nI 0)).1 489) (a_lk a).length (nI f))) 490 (upd ((wA (thr M (nI 0)) 489 (upd ((thr M (nI 0)).1 489) (a_lk a).length (nI f))).1 490) (a_lk a).length (nI g))).1 489 (a_lk a).length = nI f := by rw [wA_1n (by decide), wA_1s, upd_k]
  have hg9 : (wA (wA (thr M (nI 0)) 489 (upd ((thr M (nI 0)).1 489) (a_lk a).length (nI f))) 490 (upd ((wA (thr M (nI 0)) 489 (upd ((thr M (nI 0)).1 489) (a_lk a).length (nI f))).1 490) (a_lk a).length (nI g))).1 490 (a_lk a).length = nI g := by rw [wA_1s, upd_k]
  refine jj_aload_n F dX9_lease_0 rfl ?_
  refine jj_iload_n F dX9_lease_1 rfl ?_
  refine jj_callSi (na := 1) F c_X9_isUser (gl_S mk_X9_184 vw_X9_isUser) rfl rfl rfl (by decide +kernel) ⟨Nat.le_of_ble_eq_true rfl, Nat.le_of_ble_eq_true rfl⟩ rfl rfl (Nat.le_of_ble_eq_true rfl) ⟨Nat.le_of_ble_eq_true rfl, Nat.le_of_ble_eq_true rfl⟩ dX9_lease_2 (fun r2 M2 hp2 => ?_)
  obtain ⟨rfl, rfl⟩ := symm2 hp2
  refine jj_if_eq F (tgt := 22) dX9_lease_5 (by decide) (fun h9 => absurd h9 (by rw [hw]; decide)) (fun _ => ?_)
  refine jj_iload_n F dX9_lease_8 rfl ?_
  refine jj_callSi (na := 1) F c_X9_isCell (gl_S mk_X9_223 vw_X9_isCell) rfl rfl rfl (by decide +kernel) ⟨Nat.le_of_ble_eq_true rfl, Nat.le_of_ble_eq_true rfl⟩ rfl rfl (Nat.le_of_ble_eq_true rfl) ⟨Nat.le_of_ble_eq_true rfl, Nat.le_of_ble_eq_true rfl⟩ dX9_lease_9 (fun r9 M9 hp9 => ?_)
  obtain ⟨rfl, rfl⟩ := symm2 hp9
  refine jj_if_eq F (tgt := 22) dX9_lease_12 (by decide) (fun h9 => absurd h9 (by rw [hy]; decide)) (fun _ => ?_)
  refine jj_iload_n F dX9_lease_15 rfl ?_
  refine jj_callSi (na := 1) F c_X9_isCell (gl_S mk_X9_223 vw_X9_isCell) rfl rfl rfl (by decide +kernel) ⟨Nat.le_of_ble_eq_true rfl, Nat.le_of_ble_eq_true rfl⟩ rfl rfl (Nat.le_of_ble_eq_true rfl) ⟨Nat.le_of_ble_eq_true rfl, Nat.le_of_ble_eq_true rfl⟩ dX9_lease_16 (fun r16 M16 hp16 => ?_)
  obtain ⟨rfl, rfl⟩ := symm2 hp16
  refine jj_if_ne F (tgt := 26) dX9_lease_19 (by decide) (fun _ => ?_) (fun h9 => absurd h9 (by rw [hz]; decide))
  refine jj_iload F dX9_lease_26 rfl ?_
  refine jj_iconst F (v := nI 1) dX9_lease_28 (by decide) ?_
  refine jj_sipush F (v := nI 999) dX9_lease_29 (by decide) ?_
  refine jj_callSi (na := 3) F c_X9_within (gl_S mk_X9_91 vw_X9_within) rfl rfl rfl (by decide +kernel) ⟨Nat.le_of_ble_eq_true rfl, Nat.le_of_ble_eq_true rfl⟩ rfl rfl (Nat.le_of_ble_eq_true rfl) ⟨Nat.le_of_ble_eq_true rfl, Nat.le_of_ble_eq_true rfl⟩ dX9_lease_32 (fun r32 M32 hp32 => ?_)
  obtain ⟨rfl, rfl⟩ := symm2 hp32
  refine jj_if_eq F (tgt := 42) dX9_lease_35 (by decide) (fun h9 => absurd h9 (by rw [hv]; decide)) (fun _ => ?_)
  refine jj_iconst F (v := nI 0) dX9_lease_38 (by decide) ?_
  refine jj_goto F (tgt := 43) dX9_lease_39 (by decide) ?_
  refine jj_puti F p87 (by assumption) (by rfl) dX9_lease_43 ?_
  refine jj_aload_n F dX9_lease_46 rfl ?_
  refine jj_geti F g87 (by assumption) (by rfl) dX9_lease_47 ?_
  rw [thr_0]
  refine jj_if_le F (tgt := 55) dX9_lease_50 (by decide) (fun _ => ?_) (fun h9 => absurd (by decide) h9)
  refine jj_aload_n F dX9_lease_55 rfl ?_
  refine jj_geti F g136 (by assumption) (by rfl) dX9_lease_56 ?_
  refine jj_topi (show _ = nI (a_lk a).length from hll) ?_
  refine jj_bipush F (v := nI 6) dX9_lease_59 (by decide) ?_
  refine jj_icmp_ne F (tgt := 66) dX9_lease_61 (by decide) (fun _ => ?_) (fun h9 => absurd h9 (fun z => by have := (nI_eq (b := 6) (by omega) (by omega)).mp z; omega))
  refine jj_aload_n F dX9_lease_66 rfl ?_
  refine jj_getr F g42 (by assumption) (by rfl) dX9_lease_67 ?_
  refine jj_aload_n F dX9_lease_70 rfl ?_
  refine jj_geti F g136 (by assumption) (by rfl) dX9_lease_71 ?_
  refine jj_topi (show _ = nI (a_lk a).length from hll) ?_
  refine jj_iload_n F dX9_lease_74 rfl ?_
  refine jj_iast F (by assumption) rfl (by omega) dX9_lease_75 ?_
  refine jj_aload_n F dX9_lease_76 rfl ?_
  refine jj_getr F g45 (by assumption) (by rfl) dX9_lease_77 ?_
  refine jj_aload_n F dX9_lease_80 rfl ?_
  refine jj_geti F g136 (by assumption) (by rfl) dX9_lease_81 ?_
  refine jj_topi (show _ = nI (a_lk a).length from hll) ?_
  refine jj_iload_n F dX9_lease_84 rfl ?_
  refine jj_iast F (by assumption) rfl (by omega) dX9_lease_85 ?_
  refine jj_aload_n F dX9_lease_86 rfl ?_
  refine jj_iload_n F dX9_lease_87 rfl ?_
  refine jj_callVi (na := 1) F (c_X9_mayLease (M := (wA (wA (thr M (nI 0)) 489 (upd ((thr M (nI 0)).1 489) (a_lk a).length (nI f))) 490 (upd ((wA (thr M (nI 0)) 489 (upd ((thr M (nI 0)).1 489) (a_lk a).length (nI f))).1 490) (a_lk a).length (nI g)))) (q := (a_lk a).length) (us := fun j => (lkD (a_lk a) j).1) (fa := fun j => (lkD (a_lk a) j).2.1) (la := fun j => (lkD (a_lk a) j).2.2.1) (x := nI u) (f0 := f) (l0 := g) hll h6 hlz9 hf9 hg9 hf hg) (gl_V mk_X9_235 vw_X9_mayLease) rfl rfl rfl (by decide +kernel) ⟨Nat.le_of_ble_eq_true rfl, Nat.le_of_ble_eq_true rfl⟩ kM rfl rfl rfl (Nat.le_of_ble_eq_true rfl) ⟨Nat.le_of_ble_eq_true rfl, Nat.le_of_ble_eq_true rfl⟩ dX9_lease_88 (fun r88 M88 hp88 => ?_)
  obtain ⟨rfl, rfl⟩ := symm2 hp88
  have hm9 : (!exB 256 (fun c => rect f g c && exB (a_lk a).length (fun j => !decide ((wA (wA (thr M (nI 0)) 489 (upd ((thr M (nI 0)).1 489) (a_lk a).length (nI f))) 490 (upd ((wA (thr M (nI 0)) 489 (upd ((thr M (nI 0)).1 489) (a_lk a).length (nI f))).1 490) (a_lk a).length (nI g))).1 488 j = nI u) && rect (lkD (a_lk a) j).2.1 (lkD (a_lk a) j).2.2.1 c))) = true := by
    rw [exB_cong (fun c _ => by rw [show exB (a_lk a).length (fun j => !decide ((wA (wA (thr M (nI 0)) 489 (upd ((thr M (nI 0)).1 489) (a_lk a).length (nI f))) 490 (upd ((wA (thr M (nI 0)) 489 (upd ((thr M (nI 0)).1 489) (a_lk a).length (nI f))).1 490) (a_lk a).length (nI g))).1 488 j = nI u) && rect (lkD (a_lk a) j).2.1 (lkD (a_lk a) j).2.2.1 c) = clo (a_lk a) u c from clo_ex (M := M) hM.2.1 (by omega)])]
    show (!lsB a u f g) = _
    rw [hls]
    rfl
  refine jj_if_ne F (tgt := 96) dX9_lease_91 (by decide) (fun _ => ?_) (fun h9 => absurd h9 (by rw [hm9]; decide))
  refine jj_aload_n F dX9_lease_96 rfl ?_
  refine jj_getr F g39 (by assumption) (by rfl) dX9_lease_97 ?_
  refine jj_aload_n F dX9_lease_100 rfl ?_
  refine jj_geti F g136 (by assumption) (by rfl) dX9_lease_101 ?_
  refine jj_topi (show _ = nI (a_lk a).length from hll) ?_
  refine jj_iload_n F dX9_lease_104 rfl ?_
  refine jj_iast F (by assumption) rfl (by omega) dX9_lease_105 ?_
  refine jj_aload_n F dX9_lease_106 rfl ?_
  refine jj_getr F g48 (by assumption) (by rfl) dX9_lease_107 ?_
  refine jj_aload_n F dX9_lease_110 rfl ?_
  refine jj_geti F g136 (by assumption) (by rfl) dX9_lease_111 ?_
  refine jj_topi (show _ = nI (a_lk a).length from hll) ?_
  refine jj_aload_n F dX9_lease_114 rfl ?_
  refine jj_geti F g126 (by assumption) (by rfl) dX9_lease_115 ?_
  refine jj_topi (show _ = nI (a_t a) from htk) ?_
  refine jj_iload F dX9_lease_118 rfl ?_
  refine jj_iadd F dX9_lease_120 ?_
  rw [nI_add]
  refine jj_iast F (by assumption) rfl (by omega) dX9_lease_121 ?_
  refine jj_aload_n F dX9_lease_122 rfl ?_
  refine jj_dup F dX9_lease_123 rfl ?_
  refine jj_geti F g136 (by assumption) (by rfl) dX9_lease_124 ?_
  refine jj_topi (show _ = nI (a_lk a).length from hll) ?_
  refine jj_iconst F (v := nI 1) dX9_lease_127 (by decide) ?_
  refine jj_iadd F dX9_lease_128 ?_
  rw [nI_add]
  refine jj_puti F p136 (by assumption) (by rfl) dX9_lease_129 ?_
  refine jj_aload_n F dX9_lease_132 rfl ?_
  refine jj_geti F g136 (by assumption) (by rfl) dX9_lease_133 ?_
  refine jj_topi (show _ = nI ((a_lk a).length + 1) from rfl) ?_
  refine ret _ _ _ _ dX9_lease_136 (by first | rfl | exact nar_z (by first | exact Or.inl rfl | exact Or.inr rfl | exact b2i_01 _ | assumption)) ?_
  refine ⟨rfl, RelM_tl hM (Nat.le_refl _) ht htk (fun b hb => ?_) (fun y h1 h2 h3 => ?_) rfl (RelML_add hM.2.1 h6 ht hu hf hg hk1 hk rfl rfl rfl rfl rfl), fun y hy => ?_, rfl, rfl⟩
  · rcases hb with rfl | rfl | rfl <;> rfl
  · rw [wA_n (by omega), wA_n (by omega), wA_n (by omega), wA_n (by omega), wA_n (by omega), wA_n (by omega)]
  · rw [wA_n (by omega), wA_n (by omega), wA_n (by omega), wA_n (by omega), wA_n (by omega), wA_n (by omega)]
set_option maxRecDepth 100000 in
set_option maxHeartbeats 1000000 in
theorem m_setMark_1 {l : Launch} {E : Ee} {M : Mm} {a : Ab} {W : Nat} (hM : RelM M a W) {x : Int32} (hw : wiB x (nI 0) (nI 5) = false) : CtI l E yX9_setMark (.code yX9_setMark cX9_setMark 3 (some .int) :: gl) ({ frames := 2, cells := 0, slots := 0, locals := 42 } : Room) M [.ref (E.2.2 478), .int x] 0 0 (fun r M2 => r = nI 0 ∧ RelM M2 a W ∧ Pub M M2 1) := by
  refine ctI_of (L0 := [some (.ref (E.2.2 478)), some (.int x), none]) (by decide) rfl (Nat.le_of_ble_eq_true rfl) rfl ?_
  intro Z hl hE hnl F ret
  subst hE
  have in_X9 : ∀ w ∈ u_ws RX9 TX9 33, w ∈ (.code yX9_setMark cX9_setMark 3 (some .int) :: gl) := fun w h => List.mem_cons_of_mem _ (lay_X9 w h)
  have g28 : FG Z 28 9 9 := fg_mk F (C := RX9) (T := TX9) (N := 33) in_X9 rfl (by decide) rfl (List.mem_cons_of_mem _ fk_X9_28)
  have g51 : FG Z 51 9 18 := fg_mk F (C := RX9) (T := TX9) (N := 33) in_X9 rfl (by decide) rfl (List.mem_cons_of_mem _ fk_X9_51)
  have g54 : FG Z 54 9 19 := fg_mk F (C := RX9) (T := TX9) (N := 33) in_X9 rfl (by decide) rfl (List.mem_cons_of_mem _ fk_X9_54)
  have g57 : FG Z 57 9 20 := fg_mk F (C := RX9) (T := TX9) (N := 33) in_X9 rfl (by decide) rfl (List.mem_cons_of_mem _ fk_X9_57)
  have g60 : FG Z 60 9 21 := fg_mk F (C := RX9) (T := TX9) (N := 33) in_X9 rfl (by decide) rfl (List.mem_cons_of_mem _ fk_X9_60)
  have g87 : FG Z 87 9 0 := fg_mk F (C := RX9) (T := TX9) (N := 33) in_X9 rfl (by decide) rfl (List.mem_cons_of_mem _ fk_X9_87)
  have g95 : FG Z 95 9 2 := fg_mk F (C := RX9) (T := TX9) (N := 33) in_X9 rfl (by decide) rfl (List.mem_cons_of_mem _ fk_X9_95)
  have g126 : FG Z 126 9 1 := fg_mk F (C := RX9) (T := TX9) (N := 33) in_X9 rfl (by decide) rfl (List.mem_cons_of_mem _ fk_X9_126)
  have p87 : FP Z 87 9 0 .int := fp_mk F (C := RX9) (T := TX9) (N := 33) in_X9 tyX9_ok nmX9 rfl (by decide) rfl (List.mem_cons_of_mem _ fk_X9_87) rfl (by decide +kernel)
  obtain ⟨⟨h60, ht, htk, hn, hop, hac, hun, hopk, ⟨u0, hu1, hu2, hu3⟩, C, hC, hCa⟩, ⟨hlk, hll, hlz⟩, hK, ⟨hln, hl40, htx⟩, L0, hL0⟩ := id hM
  have kM := kd_M
  have k479 := kd_479
  have k480 := kd_480
  have k481 := kd_481
  have k482 := kd_482
  have k483 := kd_483
  have k484 := kd_484
  have k485 := kd_485
  have k486 := kd_486
  have k487 := kd_487
  have k488 := kd_488
  have k489 := kd_489
  have k490 := kd_490
  have k491 := kd_491
  have k492 := kd_492
  have k493 := kd_493
  have k494 := kd_494
  have k495 := kd_495
  have k496 := kd_496
  have k497 := kd_497
  have k498 := kd_498
  have k499 := kd_499
  have k500 := kd_500
  have k501 := kd_501
  have k502 := kd_502
  have k503 := kd_503
  refine jj_aload_n F dX9_setMark_0 rfl ?_
  refine jj_iload_n F dX9_setMark_1 rfl ?_
  refine jj_callSi (na := 1) F c_X9_isMark (gl_S mk_X9_244 vw_X9_isMark) rfl rfl rfl (by decide +kernel) ⟨Nat.le_of_ble_eq_true rfl, Nat.le_of_ble_eq_true rfl⟩ rfl rfl (Nat.le_of_ble_eq_true rfl) ⟨Nat.le_of_ble_eq_true rfl, Nat.le_of_ble_eq_true rfl⟩ dX9_setMark_2 (fun r2 M2 hp2 => ?_)
  obtain ⟨rfl, rfl⟩ := symm2 hp2
  refine jj_if_eq F (tgt := 12) dX9_setMark_5 (by decide) (fun _ => ?_) (fun h9 => absurd (by rw [hw]; rfl) h9)
  refine jj_iconst F (v := nI 1) dX9_setMark_12 (by decide) ?_
  refine jj_puti F p87 (by assumption) (by rfl) dX9_setMark_13 ?_
  refine jj_aload_n F dX9_setMark_16 rfl ?_
  refine jj_geti F g87 (by assumption) (by rfl) dX9_setMark_17 ?_
  rw [thr_0]
  refine jj_if_le F (tgt := 25) dX9_setMark_20 (by decide) (fun h9 => absurd h9 (by decide)) (fun _ => ?_)
  refine jj_iconst F (v := nI 0) dX9_setMark_23 (by decide) ?_
  refine ret _ _ _ _ dX9_setMark_24 (by first | rfl | exact nar_z (by first | exact Or.inl rfl | exact Or.inr rfl | exact b2i_01 _ | assumption)) ?_
  exact ⟨rfl, RelM_thr hM, Pub_0⟩
/-- the first i active operations as bits -/
def mbL (f : Nat → Bool) : Nat → Int64
  | 0 => lN 0
  | i + 1 => mbL f i ||| (if f i = true then lN 1 <<< ((nI i).toInt64 &&& 63) else lN 0)
theorem mbL_s {f : Nat → Bool} {i : Nat} : mbL f (i + 1) = mbL f i ||| (if f i = true then lN 1 <<< ((nI i).toInt64 &&& 63) else lN 0) := rfl
theorem mbL_b {f : Nat → Bool} : ∀ {n : Nat}, n ≤ 60 → ∀ k, k < 64 → bl (mbL f n) k = (decide (k < n) && f k)
  | 0, _, k, _ => by rw [show mbL f 0 = lN 0 from rfl, bl_0]; simp
  | n + 1, h, k, hk => by
    have ih := mbL_b (f := f) (n := n) (by omega) k hk
    rw [mbL_s, bl_or, ih]
    by_cases q : f n = true
    · rw [if_pos q, bl_shl n (by omega) k hk]
      by_cases e : k = n
      · subst e; simp [q]
      · rw [show decide (k < n + 1) = decide (k < n) by rw [Bool.eq_iff_iff]; simp only [decide_eq_true_eq]; omega]
        simp [e]
    · rw [if_neg q, bl_0]
      by_cases e : k = n
      · subst e; simp [q]
      · rw [show decide (k < n + 1) = decide (k < n) by rw [Bool.eq_iff_iff]; simp only [decide_eq_true_eq]; omega]
        simp
theorem RelM_mk {M M2 : Mm} {a : Ab} {W m : Nat} (hM : RelM M a W) (hm : m < 6) (h478 : ∀ b, b = 1 ∨ b = 2 ∨ b = 11 ∨ b = 13 ∨ b = 22 → M2.1 478 b = M.1 478 b) (hot : ∀ x, 479 ≤ x → x ≤ 496 → x ≠ 492 → x ≠ 493 → x ≠ 495 → M2.1 x = M.1 x) (h495 : M2.1 495 = upd (M.1 495) m (nI 1)) (h492 : M2.1 492 = upd (M.1 492) m (nI (a_n a))) (h493 : M2.1 493 = upd (M.1 493) m (nI (a_t a))) (h494 : M2.2 494 = vp_updL (M.2 494) m (mbL (a_ac a) (a_n a))) (h87 : M2.2 487 = M.2 487) (h97 : M2.2 497 = M.2 497) : RelM M2 (mkA a m) W := by
  obtain ⟨⟨o1, o2, o3, o4, o5, o6, o7, o8, ⟨u, u1, u2, u3⟩, C, o9, o10⟩, ⟨l1, l2, l3⟩, hK, ⟨t1, t2, t3⟩, L, hL⟩ := hM
  refine ⟨⟨o1, o2, by rw [h478 1 (by simp)]; exact o3, by rw [h478 2 (by simp)]; exact o4, fun i hi b hb => by rw [hot _ (by omega) (by omega) (by omega) (by omega) (by omega)]; exact o5 i hi b hb, fun i hi => by rw [hot 485 (by omega) (by omega) (by omega) (by omega) (by omega)]; exact o6 i hi, fun i hi => by rw [hot 486 (by omega) (by omega) (by omega) (by omega) (by omega)]; exact o7 i hi, o8, ⟨u, u1, by rw [h478 11 (by simp)]; exact u2, u3⟩, C, by rw [h87]; exact o9, o10⟩, ⟨l1, by rw [h478 13 (by simp)]; exact l2, fun j z hz => by rw [hot 488 (by omega) (by omega) (by omega) (by omega) (by omega), hot 489 (by omega) (by omega) (by omega) (by omega) (by omega), hot 490 (by omega) (by omega) (by omega) (by omega) (by omega), hot 491 (by omega) (by omega) (by omega) (by omega) (by omega)]; exact l3 j z hz⟩, fun j hj => ?_, ⟨by rw [h478 22 (by simp)]; exact t1, t2, fun i hi => by rw [hot 496 (by omega) (by omega) (by omega) (by omega) (by omega)]; exact t3 i hi⟩, L, by rw [h97]; exact hL⟩
  rw [h495, h492, h493, h494]
  show upd (M.1 495) m (nI 1) j = b2i (if j = m then (true, a_n a, a_ac a, a_t a) else a_mk a j).1 ∧ ((if j = m then (true, a_n a, a_ac a, a_t a) else a_mk a j).1 = true → _)
  by_cases q : j = m
  · subst q
    rw [if_pos rfl, upd_k]
    refine ⟨rfl, fun _ => ⟨?_, ?_, ?_, fun k hk => ?_⟩⟩
    · show upd (M.1 492) j (nI (a_n a)) j = nI (if j = j then (true, a_n a, a_ac a, a_t a) else a_mk a j).2.1
      rw [if_pos rfl, upd_k]
    · show (if j = j then (true, a_n a, a_ac a, a_t a) else a_mk a j).2.1 ≤ a_n a
      rw [if_pos rfl]; exact Nat.le_refl _
    · show upd (M.1 493) j (nI (a_t a)) j = nI (if j = j then (true, a_n a, a_ac a, a_t a) else a_mk a j).2.2.2
      rw [if_pos rfl, upd_k]
    · show bl (vp_updL (M.2 494) j (mbL (a_ac a) (a_n a)) j) k = (if j = j then (true, a_n a, a_ac a, a_t a) else a_mk a j).2.2.1 k
      have hk : k < (if j = j then (true, a_n a, a_ac a, a_t a) else a_mk a j).2.1 := hk
      rw [if_pos rfl] at hk ⊢
      have hk : k < a_n a := hk
      rw [show vp_updL (M.2 494) j (mbL (a_ac a) (a_n a)) j = mbL (a_ac a) (a_n a) by simp [vp_updL], mbL_b o1 k (by omega)]
      simp [hk]
  · have h0 := hK j hj
    rw [if_neg q, upd_o q]
    refine ⟨h0.1, fun hs => ?_⟩
    obtain ⟨k1, k2, k3, k4⟩ := h0.2 hs
    refine ⟨?_, ?_, ?_, fun k hk => ?_⟩
    · show upd (M.1 492) m (nI (a_n a)) j = nI (if j = m then (true, a_n a, a_ac a, a_t a) else a_mk a j).2.1
      rw [if_neg q, upd_o q]; exact k1
    · show (if j = m then (true, a_n a, a_ac a, a_t a) else a_mk a j).2.1 ≤ a_n a
      rw [if_neg q]; exact k2
    · show upd (M.1 493) m (nI (a_t a)) j = nI (if j = m then (true, a_n a, a_ac a, a_t a) else a_mk a j).2.2.2
      rw [if_neg q, upd_o q]; exact k3
    · show bl (vp_updL (M.2 494) m (mbL (a_ac a) (a_n a)) j) k = (if j = m then (true, a_n a, a_ac a, a_t a) else a_mk a j).2.2.1 k
      have hk : k < (if j = m then (true, a_n a, a_ac a, a_t a) else a_mk a j).2.1 := hk
      rw [if_neg q] at hk ⊢
      rw [show vp_updL (M.2 494) m (mbL (a_ac a) (a_n a)) j = M.2 494 j by simp [vp_updL, q]]
      exact k4 k hk
theorem vp_uu {f : Nat → Int64} {k : Nat} {v w : Int64} : vp_updL (vp_updL f k v) k w = vp_updL f k w := by
  funext j
  by_cases q : j = k <;> simp [vp_updL, q]
theorem vp_uk {f : Nat → Int64} {k : Nat} {v : Int64} : vp_updL f k v k = v := by simp [vp_updL]
set_option maxRecDepth 100000 in
set_option maxHeartbeats 1000000 in
theorem m_setMark_0 {l : Launch} {E : Ee} {M : Mm} {a : Ab} {W : Nat} (hM : RelM M a W) {m : Nat} (hm : m < 6) : CtI l E yX9_setMark (.code yX9_setMark cX9_setMark 3 (some .int) :: gl) ({ frames := 2, cells := 0, slots := 0, locals := 42 } : Room) M [.ref (E.2.2 478), .int (nI m)] 0 0 (fun r M2 => r = nI (a_n a) ∧ RelM M2 (mkA a m) W ∧ Pub M M2 0) := by
  refine ctI_of (L0 := [some (.ref (E.2.2 478)), some (.int (nI m)), none]) (by decide) rfl (Nat.le_of_ble_eq_true rfl) rfl ?_
  intro Z hl hE hnl F ret
  subst hE
  have in_X9 : ∀ w ∈ u_ws RX9 TX9 33, w ∈ (.code yX9_setMark cX9_setMark 3 (some .int) :: gl) := fun w h => List.mem_cons_of_mem _ (lay_X9 w h)
  have g28 : FG Z 28 9 9 := fg_mk F (C := RX9) (T := TX9) (N := 33) in_X9 rfl (by decide) rfl (List.mem_cons_of_mem _ fk_X9_28)
  have g51 : FG Z 51 9 18 := fg_mk F (C := RX9) (T := TX9) (N := 33) in_X9 rfl (by decide) rfl (List.mem_cons_of_mem _ fk_X9_51)
  have g54 : FG Z 54 9 19 := fg_mk F (C := RX9) (T := TX9) (N := 33) in_X9 rfl (by decide) rfl (List.mem_cons_of_mem _ fk_X9_54)
  have g57 : FG Z 57 9 20 := fg_mk F (C := RX9) (T := TX9) (N := 33) in_X9 rfl (by decide) rfl (List.mem_cons_of_mem _ fk_X9_57)
  have g60 : FG Z 60 9 21 := fg_mk F (C := RX9) (T := TX9) (N := 33) in_X9 rfl (by decide) rfl (List.mem_cons_of_mem _ fk_X9_60)
  have g87 : FG Z 87 9 0 := fg_mk F (C := RX9) (T := TX9) (N := 33) in_X9 rfl (by decide) rfl (List.mem_cons_of_mem _ fk_X9_87)
  have g95 : FG Z 95 9 2 := fg_mk F (C := RX9) (T := TX9) (N := 33) in_X9 rfl (by decide) rfl (List.mem_cons_of_mem _ fk_X9_95)
  have g126 : FG Z 126 9 1 := fg_mk F (C := RX9) (T := TX9) (N := 33) in_X9 rfl (by decide) rfl (List.mem_cons_of_mem _ fk_X9_126)
  have p87 : FP Z 87 9 0 .int := fp_mk F (C := RX9) (T := TX9) (N := 33) in_X9 tyX9_ok nmX9 rfl (by decide) rfl (List.mem_cons_of_mem _ fk_X9_87) rfl (by decide +kernel)
  obtain ⟨⟨h60, ht, htk, hn, hop, hac, hun, hopk, ⟨u0, hu1, hu2, hu3⟩, C, hC, hCa⟩, ⟨hlk, hll, hlz⟩, hK, ⟨hln, hl40, htx⟩, L0, hL0⟩ := id hM
  have kM := kd_M
  have k479 := kd_479
  have k480 := kd_480
  have k481 := kd_481
  have k482 := kd_482
  have k483 := kd_483
  have k484 := kd_484
  have k485 := kd_485
  have k486 := kd_486
  have k487 := kd_487
  have k488 := kd_488
  have k489 := kd_489
  have k490 := kd_490
  have k491 := kd_491
  have k492 := kd_492
  have k493 := kd_493
  have k494 := kd_494
  have k495 := kd_495
  have k496 := kd_496
  have k497 := kd_497
  have k498 := kd_498
  have k499 := kd_499
  have k500 := kd_500
  have k501 := kd_501
  have k502 := kd_502
  have k503 := kd_503
  have hw := wi_ok (lo := 0) (c := m) (hi := 5) (by omega) (by omega) (by omega)
  have lo : ∀ N : Mm, (∀ x, x ≠ 478 → x ≠ 492 → x ≠ 493 → x ≠ 495 → N.1 x = M.1 x) → (∀ b, b = 1 ∨ b = 2 ∨ b = 11 ∨ b = 13 ∨ b = 22 → N.1 478 b = M.1 478 b) → N.1 478 0 = nI 0 → N.1 495 = upd (M.1 495) m (nI 1) → N.1 492 = upd (M.1 492) m (nI (a_n a)) → N.1 493 = upd (M.1 493) m (nI (a_t a)) → N.2 = M.2 → JJ Z (0, 0) (wL N 494 (vp_updL (M.2 494) m (lN 0))) 61 [some (.ref ((zE Z).2.2 478)), some (.int (nI m)), some (.int (nI 0))] [] := by
    intro N g1 g478 g0 g495 g492 g493 gs
    have gn : N.1 478 2 = nI (a_n a) := by rw [g478 2 (by simp)]; exact hn
    have ga : N.1 485 = M.1 485 := g1 485 (by decide) (by decide) (by decide) (by decide)
    have l1 : ∀ i, i ≤ (a_n a) → JJ Z (0, 0) (wL N 494 (vp_updL (M.2 494) m (mbL (a_ac a) i))) 61 [some (.ref ((zE Z).2.2 478)), some (.int (nI m)), some (.int (nI i))] [] := by
      refine jj_loop ((a_n a)) ?_ ?_
      · refine jj_iload_n F dX9_setMark_61 rfl ?_
        refine jj_aload_n F dX9_setMark_62 rfl ?_
        refine jj_geti F g95 (by assumption) (by rfl) dX9_setMark_63 ?_
        refine jj_topi (show _ = nI (a_n a) from gn) ?_
        refine jj_icmp_ge F (tgt := 100) dX9_setMark_66 (by decide) (fun _ => ?_) (fun h9 => absurd (nI_le (by omega) (by omega)) h9)
        refine jj_aload_n F dX9_setMark_100 rfl ?_
        refine jj_geti F g95 (by assumption) (by rfl) dX9_setMark_101 ?_
        refine jj_topi (show _ = nI (a_n a) from gn) ?_
        refine ret _ _ _ _ dX9_setMark_104 (by first | rfl | exact nar_z (by first | exact Or.inl rfl | exact Or.inr rfl | exact b2i_01 _ | assumption)) ?_
        refine ⟨rfl, RelM_mk hM hm g478 (fun x h1 h2 h3 h4 h5 => g1 x (by omega) h3 h4 h5) g495 g492 g493 ?_ ?_ ?_, fun x hx => g1 x (by omega) (by omega) (by omega) (by omega), ?_, g0⟩
        · rw [wL_s]
        · rw [wL_n (by decide), gs]
        · rw [wL_n (by decide), gs]
        · rw [wL_n (by decide), gs]
      · intro i hi ih
        refine jj_iload_n F dX9_setMark_61 rfl ?_
        refine jj_aload_n F dX9_setMark_62 rfl ?_
        refine jj_geti F g95 (by assumption) (by rfl) dX9_setMark_63 ?_
        refine jj_topi (show _ = nI (a_n a) from gn) ?_
        refine jj_icmp_ge F (tgt := 100) dX9_setMark_66 (by decide) (fun h9 => absurd h9 (nI_ge (by omega) (by omega))) (fun _ => ?_)
        refine jj_aload_n F dX9_setMark_69 rfl ?_
        refine jj_getr F g57 (by assumption) (by rfl) dX9_setMark_70 ?_
        refine jj_iload_n F dX9_setMark_73 rfl ?_
        refine jj_dup2 F dX9_setMark_74 rfl rfl ?_
        refine jj_lald F (by assumption) rfl (by omega) dX9_setMark_75 ?_
        rw [wL_s, vp_uk]
        refine jj_aload_n F dX9_setMark_76 rfl ?_
        refine jj_getr F g28 (by assumption) (by rfl) dX9_setMark_77 ?_
        refine jj_iload_n F dX9_setMark_80 rfl ?_
        refine jj_zald F (by assumption) rfl (by omega) dX9_setMark_81 ?_
        rw [show (wL N 494 (vp_updL (M.2 494) m (mbL (a_ac a) i))).1 485 i = b2i (a_ac a i) by rw [wL_1, ga]; exact hac i hi]
        refine jj_if_eq F (tgt := 91) dX9_setMark_82 (by decide) (fun h82 => ?_) (fun h82 => ?_)
        · refine jj_lconst F (v := lN 0) dX9_setMark_91 (by decide) ?_
          refine jj_lor F dX9_setMark_92 ?_
          refine jj_last F (by assumption) rfl (by omega) dX9_setMark_93 ?_
          refine jj_iinc F dX9_setMark_94 rfl (by first | exact iinc1 _ | rfl) (by rw [hnl]; decide) ?_
          dsimp only [lq_st, lq_clr, lq_no]
          refine jj_goto F (tgt := 61) dX9_setMark_97 (by decide) ?_
          rw [wL_wL, wL_s, vp_uu]
          first
          | (have z := van_t h82; rw [mbL_s, if_pos z] at ih; exact ih)
          | (have z := van_f h82; rw [mbL_s, if_neg (by rw [z]; decide)] at ih; exact ih)
        · refine jj_lconst F (v := lN 1) dX9_setMark_85 (by decide) ?_
          refine jj_iload_n F dX9_setMark_86 rfl ?_
          refine jj_lshl F dX9_setMark_87 ?_
          refine jj_goto F (tgt := 92) dX9_setMark_88 (by decide) ?_
          refine jj_lor F dX9_setMark_92 ?_
          refine jj_last F (by assumption) rfl (by omega) dX9_setMark_93 ?_
          refine jj_iinc F dX9_setMark_94 rfl (by first | exact iinc1 _ | rfl) (by rw [hnl]; decide) ?_
          dsimp only [lq_st, lq_clr, lq_no]
          refine jj_goto F (tgt := 61) dX9_setMark_97 (by decide) ?_
          rw [wL_wL, wL_s, vp_uu]
          first
          | (have z := van_t h82; rw [mbL_s, if_pos z] at ih; exact ih)
          | (have z := van_f h82; rw [mbL_s, if_neg (by rw [z]; decide)] at ih; exact ih)
    exact l1 0 (by omega)
  refine jj_aload_n F dX9_setMark_0 rfl ?_
  refine jj_iload_n F dX9_setMark_1 rfl ?_
  refine jj_callSi (na := 1) F c_X9_isMark (gl_S mk_X9_244 vw_X9_isMark) rfl rfl rfl (by decide +kernel) ⟨Nat.le_of_ble_eq_true rfl, Nat.le_of_ble_eq_true rfl⟩ rfl rfl (Nat.le_of_ble_eq_true rfl) ⟨Nat.le_of_ble_eq_true rfl, Nat.le_of_ble_eq_true rfl⟩ dX9_setMark_2 (fun r2 M2 hp2 => ?_)
  obtain ⟨rfl, rfl⟩ := symm2 hp2
  refine jj_if_eq F (tgt := 12) dX9_setMark_5 (by decide) (fun h9 => absurd h9 (by rw [hw]; decide)) (fun _ => ?_)
  refine jj_iconst F (v := nI 0) dX9_setMark_8 (by decide) ?_
  refine jj_goto F (tgt := 13) dX9_setMark_9 (by decide) ?_
  refine jj_puti F p87 (by assumption) (by rfl) dX9_setMark_13 ?_
  refine jj_aload_n F dX9_setMark_16 rfl ?_
  refine jj_geti F g87 (by assumption) (by rfl) dX9_setMark_17 ?_
  rw [thr_0]
  refine jj_if_le F (tgt := 25) dX9_setMark_20 (by decide) (fun _ => ?_) (fun h9 => absurd (by decide) h9)
  refine jj_aload_n F dX9_setMark_25 rfl ?_
  refine jj_getr F g60 (by assumption) (by rfl) dX9_setMark_26 ?_
  refine jj_iload_n F dX9_setMark_29 rfl ?_
  refine jj_iconst F (v := nI 1) dX9_setMark_30 (by decide) ?_
  refine jj_zast F (by assumption) rfl (by omega) (by first | exact Or.inl rfl | exact Or.inr rfl | exact b2i_01 _ | assumption) dX9_setMark_31 ?_
  refine jj_aload_n F dX9_setMark_32 rfl ?_
  refine jj_getr F g51 (by assumption) (by rfl) dX9_setMark_33 ?_
  refine jj_iload_n F dX9_setMark_36 rfl ?_
  refine jj_aload_n F dX9_setMark_37 rfl ?_
  refine jj_geti F g95 (by assumption) (by rfl) dX9_setMark_38 ?_
  refine jj_topi (show _ = nI (a_n a) from hn) ?_
  refine jj_iast F (by assumption) rfl (by omega) dX9_setMark_41 ?_
  refine jj_aload_n F dX9_setMark_42 rfl ?_
  refine jj_getr F g54 (by assumption) (by rfl) dX9_setMark_43 ?_
  refine jj_iload_n F dX9_setMark_46 rfl ?_
  refine jj_aload_n F dX9_setMark_47 rfl ?_
  refine jj_geti F g126 (by assumption) (by rfl) dX9_setMark_48 ?_
  refine jj_topi (show _ = nI (a_t a) from htk) ?_
  refine jj_iast F (by assumption) rfl (by omega) dX9_setMark_51 ?_
  refine jj_aload_n F dX9_setMark_52 rfl ?_
  refine jj_getr F g57 (by assumption) (by rfl) dX9_setMark_53 ?_
  refine jj_iload_n F dX9_setMark_56 rfl ?_
  refine jj_lconst F (v := lN 0) dX9_setMark_57 (by decide) ?_
  refine jj_last F (by assumption) rfl (by omega) dX9_setMark_58 ?_
  refine jj_iconst F (v := nI 0) dX9_setMark_59 (by decide) ?_
  refine jj_istore_n F dX9_setMark_60 (by rw [hnl]; decide) ?_
  dsimp only [lq_st, lq_clr, lq_no]
  refine jj_eqM ?_ (lo (wA (wA (wA (thr M (nI 0)) 495 (upd ((thr M (nI 0)).1 495) m (nI 1))) 492 (upd ((wA (thr M (nI 0)) 495 (upd ((thr M (nI 0)).1 495) m (nI 1))).1 492) m (nI (a_n a)))) 493 (upd ((wA (wA (thr M (nI 0)) 495 (upd ((thr M (nI 0)).1 495) m (nI 1))) 492 (upd ((wA (thr M (nI 0)) 495 (upd ((thr M (nI 0)).1 495) m (nI 1))).1 492) m (nI (a_n a)))).1 493) m (nI (a_t a)))) (fun x h1 h2 h3 h4 => by rw [wA_n (by omega), wA_n (by omega), wA_n (by omega), wA_n (by omega)]) (fun b hb => by rcases hb with rfl | rfl | rfl | rfl | rfl <;> rfl) rfl rfl rfl rfl rfl)
  rfl
set_option maxRecDepth 100000 in
set_option maxHeartbeats 1000000 in
theorem m_rewind_1 {l : Launch} {E : Ee} {M : Mm} {a : Ab} {W : Nat} (hM : RelM M a W) {x : Int32} (hw : wiB x (nI 0) (nI 5) = false) : CtI l E yX9_rewind (.code yX9_rewind cX9_rewind 4 (some .int) :: gl) ({ frames := 2, cells := 0, slots := 0, locals := 42 } : Room) M [.ref (E.2.2 478), .int x] 0 0 (fun r M2 => r = nI 0 ∧ RelM M2 a W ∧ Pub M M2 1) := by
  refine ctI_of (L0 := [some (.ref (E.2.2 478)), some (.int x), none, none]) (by decide) rfl (Nat.le_of_ble_eq_true rfl) rfl ?_
  intro Z hl hE hnl F ret
  subst hE
  have in_X9 : ∀ w ∈ u_ws RX9 TX9 33, w ∈ (.code yX9_rewind cX9_rewind 4 (some .int) :: gl) := fun w h => List.mem_cons_of_mem _ (lay_X9 w h)
  have g28 : FG Z 28 9 9 := fg_mk F (C := RX9) (T := TX9) (N := 33) in_X9 rfl (by decide) rfl (List.mem_cons_of_mem _ fk_X9_28)
  have g32 : FG Z 32 9 10 := fg_mk F (C := RX9) (T := TX9) (N := 33) in_X9 rfl (by decide) rfl (List.mem_cons_of_mem _ fk_X9_32)
  have g51 : FG Z 51 9 18 := fg_mk F (C := RX9) (T := TX9) (N := 33) in_X9 rfl (by decide) rfl (List.mem_cons_of_mem _ fk_X9_51)
  have g60 : FG Z 60 9 21 := fg_mk F (C := RX9) (T := TX9) (N := 33) in_X9 rfl (by decide) rfl (List.mem_cons_of_mem _ fk_X9_60)
  have g87 : FG Z 87 9 0 := fg_mk F (C := RX9) (T := TX9) (N := 33) in_X9 rfl (by decide) rfl (List.mem_cons_of_mem _ fk_X9_87)
  have g95 : FG Z 95 9 2 := fg_mk F (C := RX9) (T := TX9) (N := 33) in_X9 rfl (by decide) rfl (List.mem_cons_of_mem _ fk_X9_95)
  have p87 : FP Z 87 9 0 .int := fp_mk F (C := RX9) (T := TX9) (N := 33) in_X9 tyX9_ok nmX9 rfl (by decide) rfl (List.mem_cons_of_mem _ fk_X9_87) rfl (by decide +kernel)
  have p95 : FP Z 95 9 2 .int := fp_mk F (C := RX9) (T := TX9) (N := 33) in_X9 tyX9_ok nmX9 rfl (by decide) rfl (List.mem_cons_of_mem _ fk_X9_95) rfl (by decide +kernel)
  obtain ⟨⟨h60, ht, htk, hn, hop, hac, hun, hopk, ⟨u0, hu1, hu2, hu3⟩, C, hC, hCa⟩, ⟨hlk, hll, hlz⟩, hK, ⟨hln, hl40, htx⟩, L0, hL0⟩ := id hM
  have kM := kd_M
  have k479 := kd_479
  have k480 := kd_480
  have k481 := kd_481
  have k482 := kd_482
  have k483 := kd_483
  have k484 := kd_484
  have k485 := kd_485
  have k486 := kd_486
  have k487 := kd_487
  have k488 := kd_488
  have k489 := kd_489
  have k490 := kd_490
  have k491 := kd_491
  have k492 := kd_492
  have k493 := kd_493
  have k494 := kd_494
  have k495 := kd_495
  have k496 := kd_496
  have k497 := kd_497
  have k498 := kd_498
  have k499 := kd_499
  have k500 := kd_500
  have k501 := kd_501
  have k502 := kd_502
  have k503 := kd_503
  refine jj_aload_n F dX9_rewind_0 rfl ?_
  refine jj_iload_n F dX9_rewind_1 rfl ?_
  refine jj_callSi (na := 1) F c_X9_isMark (gl_S mk_X9_244 vw_X9_isMark) rfl rfl rfl (by decide +kernel) ⟨Nat.le_of_ble_eq_true rfl, Nat.le_of_ble_eq_true rfl⟩ rfl rfl (Nat.le_of_ble_eq_true rfl) ⟨Nat.le_of_ble_eq_true rfl, Nat.le_of_ble_eq_true rfl⟩ dX9_rewind_2 (fun r2 M2 hp2 => ?_)
  obtain ⟨rfl, rfl⟩ := symm2 hp2
  refine jj_if_ne F (tgt := 12) dX9_rewind_5 (by decide) (fun h9 => absurd h9 (fun z => z (by rw [hw]; rfl))) (fun _ => ?_)
  refine jj_iconst F (v := nI 1) dX9_rewind_8 (by decide) ?_
  refine jj_goto F (tgt := 26) dX9_rewind_9 (by decide) ?_
  refine jj_puti F p87 (by assumption) (by rfl) dX9_rewind_26 ?_
  refine jj_aload_n F dX9_rewind_29 rfl ?_
  refine jj_geti F g87 (by assumption) (by rfl) dX9_rewind_30 ?_
  rw [thr_0]
  refine jj_if_le F (tgt := 38) dX9_rewind_33 (by decide) (fun h9 => absurd h9 (by decide)) (fun _ => ?_)
  refine jj_iconst F (v := nI 0) dX9_rewind_36 (by decide) ?_
  refine ret _ _ _ _ dX9_rewind_37 (by first | rfl | exact nar_z (by first | exact Or.inl rfl | exact Or.inr rfl | exact b2i_01 _ | assumption)) ?_
  exact ⟨rfl, RelM_thr hM, Pub_0⟩
set_option maxRecDepth 100000 in
set_option maxHeartbeats 1000000 in
theorem m_rewind_2 {l : Launch} {E : Ee} {M : Mm} {a : Ab} {W : Nat} (hM : RelM M a W) {m : Nat} (hm : m < 6) (hs : (a_mk a m).1 = false) : CtI l E yX9_rewind (.code yX9_rewind cX9_rewind 4 (some .int) :: gl) ({ frames := 2, cells := 0, slots := 0, locals := 42 } : Room) M [.ref (E.2.2 478), .int (nI m)] 0 0 (fun r M2 => r = nI 0 ∧ RelM M2 a W ∧ Pub M M2 2) := by
  refine ctI_of (L0 := [some (.ref (E.2.2 478)), some (.int (nI m)), none, none]) (by decide) rfl (Nat.le_of_ble_eq_true rfl) rfl ?_
  intro Z hl hE hnl F ret
  subst hE
  have in_X9 : ∀ w ∈ u_ws RX9 TX9 33, w ∈ (.code yX9_rewind cX9_rewind 4 (some .int) :: gl) := fun w h => List.mem_cons_of_mem _ (lay_X9 w h)
  have g28 : FG Z 28 9 9 := fg_mk F (C := RX9) (T := TX9) (N := 33) in_X9 rfl (by decide) rfl (List.mem_cons_of_mem _ fk_X9_28)
  have g32 : FG Z 32 9 10 := fg_mk F (C := RX9) (T := TX9) (N := 33) in_X9 rfl (by decide) rfl (List.mem_cons_of_mem _ fk_X9_32)
  have g51 : FG Z 51 9 18 := fg_mk F (C := RX9) (T := TX9) (N := 33) in_X9 rfl (by decide) rfl (List.mem_cons_of_mem _ fk_X9_51)
  have g60 : FG Z 60 9 21 := fg_mk F (C := RX9) (T := TX9) (N := 33) in_X9 rfl (by decide) rfl (List.mem_cons_of_mem _ fk_X9_60)
  have g87 : FG Z 87 9 0 := fg_mk F (C := RX9) (T := TX9) (N := 33) in_X9 rfl (by decide) rfl (List.mem_cons_of_mem _ fk_X9_87)
  have g95 : FG Z 95 9 2 := fg_mk F (C := RX9) (T := TX9) (N := 33) in_X9 rfl (by decide) rfl (List.mem_cons_of_mem _ fk_X9_95)
  have p87 : FP Z 87 9 0 .int := fp_mk F (C := RX9) (T := TX9) (N := 33) in_X9 tyX9_ok nmX9 rfl (by decide) rfl (List.mem_cons_of_mem _ fk_X9_87) rfl (by decide +kernel)
  have p95 : FP Z 95 9 2 .int := fp_mk F (C := RX9) (T := TX9) (N := 33) in_X9 tyX9_ok nmX9 rfl (by decide) rfl (List.mem_cons_of_mem _ fk_X9_95) rfl (by decide +kernel)
  obtain ⟨⟨h60, ht, htk, hn, hop, hac, hun, hopk, ⟨u0, hu1, hu2, hu3⟩, C, hC, hCa⟩, ⟨hlk, hll, hlz⟩, hK, ⟨hln, hl40, htx⟩, L0, hL0⟩ := id hM
  have kM := kd_M
  have k479 := kd_479
  have k480 := kd_480
  have k481 := kd_481
  have k482 := kd_482
  have k483 := kd_483
  have k484 := kd_484
  have k485 := kd_485
  have k486 := kd_486
  have k487 := kd_487
  have k488 := kd_488
  have k489 := kd_489
  have k490 := kd_490
  have k491 := kd_491
  have k492 := kd_492
  have k493 := kd_493
  have k494 := kd_494
  have k495 := kd_495
  have k496 := kd_496
  have k497 := kd_497
  have k498 := kd_498
  have k499 := kd_499
  have k500 := kd_500
  have k501 := kd_501
  have k502 := kd_502
  have k503 := kd_503
  have hw := wi_ok (lo := 0) (c := m) (hi := 5) (by omega) (by omega) (by omega)
  refine jj_aload_n F dX9_rewind_0 rfl ?_
  refine jj_iload_n F dX9_rewind_1 rfl ?_
  refine jj_callSi (na := 1) F c_X9_isMark (gl_S mk_X9_244 vw_X9_isMark) rfl rfl rfl (by decide +kernel) ⟨Nat.le_of_ble_eq_true rfl, Nat.le_of_ble_eq_true rfl⟩ rfl rfl (Nat.le_of_ble_eq_true rfl) ⟨Nat.le_of_ble_eq_true rfl, Nat.le_of_ble_eq_true rfl⟩ dX9_rewind_2 (fun r2 M2 hp2 => ?_)
  obtain ⟨rfl, rfl⟩ := symm2 hp2
  refine jj_if_ne F (tgt := 12) dX9_rewind_5 (by decide) (fun _ => ?_) (fun h9 => absurd h9 (by rw [hw]; decide))
  refine jj_aload_n F dX9_rewind_12 rfl ?_
  refine jj_getr F g60 (by assumption) (by rfl) dX9_rewind_13 ?_
  refine jj_iload_n F dX9_rewind_16 rfl ?_
  refine jj_zald F (by assumption) rfl (by omega) dX9_rewind_17 ?_
  rw [(hK m hm).1]
  refine jj_if_eq F (tgt := 25) dX9_rewind_18 (by decide) (fun _ => ?_) (fun h9 => absurd (by rw [hs]; rfl) h9)
  refine jj_iconst F (v := nI 2) dX9_rewind_25 (by decide) ?_
  refine jj_puti F p87 (by assumption) (by rfl) dX9_rewind_26 ?_
  refine jj_aload_n F dX9_rewind_29 rfl ?_
  refine jj_geti F g87 (by assumption) (by rfl) dX9_rewind_30 ?_
  rw [thr_0]
  refine jj_if_le F (tgt := 38) dX9_rewind_33 (by decide) (fun h9 => absurd h9 (by decide)) (fun _ => ?_)
  refine jj_iconst F (v := nI 0) dX9_rewind_36 (by decide) ?_
  refine ret _ _ _ _ dX9_rewind_37 (by first | rfl | exact nar_z (by first | exact Or.inl rfl | exact Or.inr rfl | exact b2i_01 _ | assumption)) ?_
  exact ⟨rfl, RelM_thr hM, Pub_0⟩
theorem RelM_rw {M M2 : Mm} {a : Ab} {W m : Nat} (hM : RelM M a W) (hm : m < 6) (hs : (a_mk a m).1 = true) (h478 : ∀ b, b = 1 ∨ b = 11 ∨ b = 13 ∨ b = 22 → M2.1 478 b = M.1 478 b) (h2 : M2.1 478 2 = nI (a_mk a m).2.1) (hot : ∀ x, 479 ≤ x → x ≤ 496 → x ≠ 485 → x ≠ 486 → x ≠ 495 → M2.1 x = M.1 x) (h485 : ∀ i, i < (a_mk a m).2.1 → M2.1 485 i = b2i ((a_mk a m).2.2.1 i)) (h486 : ∀ i, i < (a_mk a m).2.1 → M2.1 486 i = nI 0) (h495 : ∀ j, j < 6 → M2.1 495 j = b2i ((a_mk a j).1 && decide ((a_mk a j).2.1 ≤ (a_mk a m).2.1))) (hs2 : M2.2 = M.2) : RelM M2 (rwA a m) W := by
  obtain ⟨⟨o1, o2, o3, o4, o5, o6, o7, o8, ⟨u, u1, u2, u3⟩, C, o9, o10⟩, ⟨l1, l2, l3⟩, hK, ⟨t1, t2, t3⟩, L, hL⟩ := hM
  obtain ⟨k1, k2, k3, k4⟩ := (hK m hm).2 hs
  refine ⟨⟨Nat.le_trans k2 o1, o2, by rw [h478 1 (by simp)]; exact o3, h2, fun i hi b hb => by rw [hot _ (by omega) (by omega) (by omega) (by omega) (by omega)]; exact o5 i (Nat.lt_of_lt_of_le hi k2) b hb, h485, h486, fun i hi => o8 i (Nat.lt_of_lt_of_le hi k2), ⟨u, u1, by rw [h478 11 (by simp)]; exact u2, fun i _ => Nat.zero_le _⟩, C, by rw [hs2]; exact o9, fun i hi => o10 i (Nat.lt_of_lt_of_le hi k2)⟩, ⟨l1, by rw [h478 13 (by simp)]; exact l2, fun j z hz => by rw [hot 488 (by omega) (by omega) (by omega) (by omega) (by omega), hot 489 (by omega) (by omega) (by omega) (by omega) (by omega), hot 490 (by omega) (by omega) (by omega) (by omega) (by omega), hot 491 (by omega) (by omega) (by omega) (by omega) (by omega)]; exact l3 j z hz⟩, fun j hj => ?_, ⟨by rw [h478 22 (by simp)]; exact t1, t2, fun i hi => by rw [hot 496 (by omega) (by omega) (by omega) (by omega) (by omega)]; exact t3 i hi⟩, L, by rw [hs2]; exact hL⟩
  refine ⟨h495 j hj, fun h => ?_⟩
  have h : ((a_mk a j).1 && decide ((a_mk a j).2.1 ≤ (a_mk a m).2.1)) = true := h
  rw [Bool.and_eq_true, decide_eq_true_eq] at h
  obtain ⟨q1, q2, q3, q4⟩ := (hK j hj).2 h.1
  rw [hot 492 (by omega) (by omega) (by omega) (by omega) (by omega), hot 493 (by omega) (by omega) (by omega) (by omega) (by omega), hs2]
  exact ⟨q1, h.2, q3, q4⟩
theorem rw_put {N : Mm} {i : Nat} {F G g h : Nat → Int32} : wA (wA (wA (wA N 485 (fl i F g)) 486 (fl i G h)) 485 (upd ((wA (wA N 485 (fl i F g)) 486 (fl i G h)).1 485) i (F i))) 486 (upd ((wA (wA (wA N 485 (fl i F g)) 486 (fl i G h)) 485 (upd ((wA (wA N 485 (fl i F g)) 486 (fl i G h)).1 485) i (F i))).1 486) i (G i)) = wA (wA N 485 (fl (i + 1) F g)) 486 (fl (i + 1) G h) := by
  refine mm_ext (fun x => ?_) rfl
  by_cases q : x = 486
  · subst q
    rw [wA_s, wA_s, wA_n (by decide), wA_s, fl_s rfl]
  · rw [wA_n q, wA_n q]
    by_cases q2 : x = 485
    · subst q2
      rw [wA_s, wA_s, wA_n (by decide), wA_s, fl_s rfl]
    · rw [wA_n q2, wA_n q2, wA_n q, wA_n q2]
set_option maxRecDepth 100000 in
set_option maxHeartbeats 1000000 in
theorem m_rewind_0 {l : Launch} {E : Ee} {M : Mm} {a : Ab} {W : Nat} (hM : RelM M a W) {m : Nat} (hm : m < 6) (hs : (a_mk a m).1 = true) : CtI l E yX9_rewind (.code yX9_rewind cX9_rewind 4 (some .int) :: gl) ({ frames := 2, cells := 0, slots := 0, locals := 42 } : Room) M [.ref (E.2.2 478), .int (nI m)] 0 0 (fun r M2 => r = nI (a_n a - (a_mk a m).2.1) ∧ RelM M2 (rwA a m) W ∧ Pub M M2 0) := by
  refine ctI_of (L0 := [some (.ref (E.2.2 478)), some (.int (nI m)), none, none]) (by decide) rfl (Nat.le_of_ble_eq_true rfl) rfl ?_
  intro Z hl hE hnl F ret
  subst hE
  have in_X9 : ∀ w ∈ u_ws RX9 TX9 33, w ∈ (.code yX9_rewind cX9_rewind 4 (some .int) :: gl) := fun w h => List.mem_cons_of_mem _ (lay_X9 w h)
  have g28 : FG Z 28 9 9 := fg_mk F (C := RX9) (T := TX9) (N := 33) in_X9 rfl (by decide) rfl (List.mem_cons_of_mem _ fk_X9_28)
  have g32 : FG Z 32 9 10 := fg_mk F (C := RX9) (T := TX9) (N := 33) in_X9 rfl (by decide) rfl (List.mem_cons_of_mem _ fk_X9_32)
  have g51 : FG Z 51 9 18 := fg_mk F (C := RX9) (T := TX9) (N := 33) in_X9 rfl (by decide) rfl (List.mem_cons_of_mem _ fk_X9_51)
  have g60 : FG Z 60 9 21 := fg_mk F (C := RX9) (T := TX9) (N := 33) in_X9 rfl (by decide) rfl (List.mem_cons_of_mem _ fk_X9_60)
  have g87 : FG Z 87 9 0 := fg_mk F (C := RX9) (T := TX9) (N := 33) in_X9 rfl (by decide) rfl (List.mem_cons_of_mem _ fk_X9_87)
  have g95 : FG Z 95 9 2 := fg_mk F (C := RX9) (T := TX9) (N := 33) in_X9 rfl (by decide) rfl (List.mem_cons_of_mem _ fk_X9_95)
  have p87 : FP Z 87 9 0 .int := fp_mk F (C := RX9) (T := TX9) (N := 33) in_X9 tyX9_ok nmX9 rfl (by decide) rfl (List.mem_cons_of_mem _ fk_X9_87) rfl (by decide +kernel)
  have p95 : FP Z 95 9 2 .int := fp_mk F (C := RX9) (T := TX9) (N := 33) in_X9 tyX9_ok nmX9 rfl (by decide) rfl (List.mem_cons_of_mem _ fk_X9_95) rfl (by decide +kernel)
  obtain ⟨⟨h60, ht, htk, hn, hop, hac, hun, hopk, ⟨u0, hu1, hu2, hu3⟩, C, hC, hCa⟩, ⟨hlk, hll, hlz⟩, hK, ⟨hln, hl40, htx⟩, L0, hL0⟩ := id hM
  have kM := kd_M
  have k479 := kd_479
  have k480 := kd_480
  have k481 := kd_481
  have k482 := kd_482
  have k483 := kd_483
  have k484 := kd_484
  have k485 := kd_485
  have k486 := kd_486
  have k487 := kd_487
  have k488 := kd_488
  have k489 := kd_489
  have k490 := kd_490
  have k491 := kd_491
  have k492 := kd_492
  have k493 := kd_493
  have k494 := kd_494
  have k495 := kd_495
  have k496 := kd_496
  have k497 := kd_497
  have k498 := kd_498
  have k499 := kd_499
  have k500 := kd_500
  have k501 := kd_501
  have k502 := kd_502
  have k503 := kd_503
  have hw := wi_ok (lo := 0) (c := m) (hi := 5) (by omega) (by omega) (by omega)
  obtain ⟨k1, k2, k3, k4⟩ := (hK m hm).2 hs
  have lb : ∀ N : Mm, (∀ x, x ≠ 478 → x ≠ 485 → x ≠ 486 → N.1 x = M.1 x) → (∀ b, b = 1 ∨ b = 11 ∨ b = 13 ∨ b = 22 → N.1 478 b = M.1 478 b) → N.1 478 0 = nI 0 → N.1 478 2 = nI (a_mk a m).2.1 → (∀ i, i < (a_mk a m).2.1 → N.1 485 i = b2i ((a_mk a m).2.2.1 i)) → (∀ i, i < (a_mk a m).2.1 → N.1 486 i = nI 0) → N.2 = M.2 → JJ Z (0, 0) N 97 [some (.ref ((zE Z).2.2 478)), some (.int (nI m)), some (.int (nI (a_n a - (a_mk a m).2.1))), some (.int (nI 0))] [] := by
    intro N g1 g478 g0 g2 g485 g486 gs
    have l2 : ∀ i, i ≤ 6 → JJ Z (0, 0) (wA N 495 (fl i (fun j => b2i ((a_mk a j).1 && decide ((a_mk a j).2.1 ≤ (a_mk a m).2.1))) (M.1 495))) 97 [some (.ref ((zE Z).2.2 478)), some (.int (nI m)), some (.int (nI (a_n a - (a_mk a m).2.1))), some (.int (nI i))] [] := by
      refine jj_loop (6) ?_ ?_
      · refine jj_iload_n F dX9_rewind_97 rfl ?_
        refine jj_bipush F (v := nI 6) dX9_rewind_98 (by decide) ?_
        refine jj_icmp_ge F (tgt := 142) dX9_rewind_100 (by decide) (fun _ => ?_) (fun h9 => absurd (nI_le (by omega) (by omega)) h9)
        refine jj_iload_n F dX9_rewind_142 rfl ?_
        refine ret _ _ _ _ dX9_rewind_143 (by first | rfl | exact nar_z (by first | exact Or.inl rfl | exact Or.inr rfl | exact b2i_01 _ | assumption)) ?_
        refine ⟨rfl, RelM_rw hM hm hs (fun b hb => by rw [wA_n (by decide)]; exact g478 b hb) (by rw [wA_n (by decide)]; exact g2) (fun x h1 h2 h3 h4 h5 => by rw [wA_n h5]; exact g1 x (by omega) h3 h4) (fun i hi => by rw [wA_n (by decide)]; exact g485 i hi) (fun i hi => by rw [wA_n (by decide)]; exact g486 i hi) (fun j hj => by rw [wA_1s, fl_in hj]) gs, fun x hx => ?_, ?_, ?_⟩
        · rw [wA_n (by omega)]; exact g1 x (by omega) (by omega) (by omega)
        · rw [wA_2, gs]
        · rw [wA_n (by decide)]; exact g0
      · intro i hi ih
        refine jj_iload_n F dX9_rewind_97 rfl ?_
        refine jj_bipush F (v := nI 6) dX9_rewind_98 (by decide) ?_
        refine jj_icmp_ge F (tgt := 142) dX9_rewind_100 (by decide) (fun h9 => absurd h9 (nI_ge (by omega) (by omega))) (fun _ => ?_)
        refine jj_aload_n F dX9_rewind_103 rfl ?_
        refine jj_getr F g60 (by assumption) (by rfl) dX9_rewind_104 ?_
        refine jj_iload_n F dX9_rewind_107 rfl ?_
        refine jj_aload_n F dX9_rewind_108 rfl ?_
        refine jj_getr F g60 (by assumption) (by rfl) dX9_rewind_109 ?_
        refine jj_iload_n F dX9_rewind_112 rfl ?_
        refine jj_zald F (by assumption) rfl (by omega) dX9_rewind_113 ?_
        rw [wA_1s, fl_out (by omega), (hK i hi).1]
        refine jj_if_eq F (tgt := 134) dX9_rewind_114 (by decide) (fun h114 => ?_) (fun h114 => ?_)
        · refine jj_iconst F (v := nI 0) dX9_rewind_134 (by decide) ?_
          refine jj_zast F (by assumption) rfl (by omega) (by first | exact Or.inl rfl | exact Or.inr rfl | exact b2i_01 _ | assumption) dX9_rewind_135 ?_
          refine jj_iinc F dX9_rewind_136 rfl (by first | exact iinc1 _ | rfl) (by rw [hnl]; decide) ?_
          dsimp only [lq_st, lq_clr, lq_no]
          refine jj_goto F (tgt := 97) dX9_rewind_139 (by decide) ?_
          rw [fl_put ?_]
          · exact ih
          · first
            | (have z := van_f h114; show _ = b2i ((a_mk a i).1 && _); rw [z]; rfl)
            | (have z := van_t h114; have z3 := ((hK i hi).2 z).2.1; have z2 : nI (a_mk a m).2.1 < nI (a_mk a i).2.1 := h127; have z4 := (nI_ltI (by omega) (by omega)).mp z2; show _ = b2i ((a_mk a i).1 && decide _); rw [z, decide_eq_false (by omega)]; rfl)
            | (have z := van_t h114; have z3 := ((hK i hi).2 z).2.1; have z2 : ¬ nI (a_mk a m).2.1 < nI (a_mk a i).2.1 := h127; have z4 : ¬ (a_mk a m).2.1 < (a_mk a i).2.1 := fun q => z2 (nI_lt q (by omega)); show _ = b2i ((a_mk a i).1 && decide _); rw [z, decide_eq_true (by omega)]; rfl)
        · refine jj_aload_n F dX9_rewind_117 rfl ?_
          refine jj_getr F g51 (by assumption) (by rfl) dX9_rewind_118 ?_
          refine jj_iload_n F dX9_rewind_121 rfl ?_
          refine jj_iald F (by assumption) rfl (by omega) dX9_rewind_122 ?_
          rw [wA_1n (by decide), g1 492 (by decide) (by decide) (by decide), ((hK i hi).2 (van_t h114)).1]
          refine jj_aload_n F dX9_rewind_123 rfl ?_
          refine jj_geti F g95 (by assumption) (by rfl) dX9_rewind_124 ?_
          rw [wA_1n (by decide), g2]
          refine jj_icmp_gt F (tgt := 134) dX9_rewind_127 (by decide) (fun h127 => ?_) (fun h127 => ?_)
          · refine jj_iconst F (v := nI 0) dX9_rewind_134 (by decide) ?_
            refine jj_zast F (by assumption) rfl (by omega) (by first | exact Or.inl rfl | exact Or.inr rfl | exact b2i_01 _ | assumption) dX9_rewind_135 ?_
            refine jj_iinc F dX9_rewind_136 rfl (by first | exact iinc1 _ | rfl) (by rw [hnl]; decide) ?_
            dsimp only [lq_st, lq_clr, lq_no]
            refine jj_goto F (tgt := 97) dX9_rewind_139 (by decide) ?_
            rw [fl_put ?_]
            · exact ih
            · first
              | (have z := van_f h114; show _ = b2i ((a_mk a i).1 && _); rw [z]; rfl)
              | (have z := van_t h114; have z3 := ((hK i hi).2 z).2.1; have z2 : nI (a_mk a m).2.1 < nI (a_mk a i).2.1 := h127; have z4 := (nI_ltI (by omega) (by omega)).mp z2; show _ = b2i ((a_mk a i).1 && decide _); rw [z, decide_eq_false (by omega)]; rfl)
              | (have z := van_t h114; have z3 := ((hK i hi).2 z).2.1; have z2 : ¬ nI (a_mk a m).2.1 < nI (a_mk a i).2.1 := h127; have z4 : ¬ (a_mk a m).2.1 < (a_mk a i).2.1 := fun q => z2 (nI_lt q (by omega)); show _ = b2i ((a_mk a i).1 && decide _); rw [z, decide_eq_true (by omega)]; rfl)
          · refine jj_iconst F (v := nI 1) dX9_rewind_130 (by decide) ?_
            refine jj_goto F (tgt := 135) dX9_rewind_131 (by decide) ?_
            refine jj_zast F (by assumption) rfl (by omega) (by first | exact Or.inl rfl | exact Or.inr rfl | exact b2i_01 _ | assumption) dX9_rewind_135 ?_
            refine jj_iinc F dX9_rewind_136 rfl (by first | exact iinc1 _ | rfl) (by rw [hnl]; decide) ?_
            dsimp only [lq_st, lq_clr, lq_no]
            refine jj_goto F (tgt := 97) dX9_rewind_139 (by decide) ?_
            rw [fl_put ?_]
            · exact ih
            · first
              | (have z := van_f h114; show _ = b2i ((a_mk a i).1 && _); rw [z]; rfl)
              | (have z := van_t h114; have z3 := ((hK i hi).2 z).2.1; have z2 : nI (a_mk a m).2.1 < nI (a_mk a i).2.1 := h127; have z4 := (nI_ltI (by omega) (by omega)).mp z2; show _ = b2i ((a_mk a i).1 && decide _); rw [z, decide_eq_false (by omega)]; rfl)
              | (have z := van_t h114; have z3 := ((hK i hi).2 z).2.1; have z2 : ¬ nI (a_mk a m).2.1 < nI (a_mk a i).2.1 := h127; have z4 : ¬ (a_mk a m).2.1 < (a_mk a i).2.1 := fun q => z2 (nI_lt q (by omega)); show _ = b2i ((a_mk a i).1 && decide _); rw [z, decide_eq_true (by omega)]; rfl)
    refine jj_eqM ?_ (l2 0 (by omega))
    rw [fl_z, ← g1 495 (by decide) (by decide) (by decide), wA_same]
  have hmn : ∀ i, (wA (wA (wA (thr M (nI 0)) 478 (upd ((thr M (nI 0)).1 478) 2 (nI (a_mk a m).2.1))) 485 (fl i (fun i => b2i ((a_mk a m).2.2.1 i)) (M.1 485))) 486 (fl i (fun _ => nI 0) (M.1 486))).1 478 2 = nI (a_mk a m).2.1 := fun i => rfl
  have l1 : ∀ i, i ≤ (a_mk a m).2.1 → JJ Z (0, 0) (wA (wA (wA (thr M (nI 0)) 478 (upd ((thr M (nI 0)).1 478) 2 (nI (a_mk a m).2.1))) 485 (fl i (fun i => b2i ((a_mk a m).2.2.1 i)) (M.1 485))) 486 (fl i (fun _ => nI 0) (M.1 486))) 62 [some (.ref ((zE Z).2.2 478)), some (.int (nI m)), some (.int (nI (a_n a - (a_mk a m).2.1))), some (.int (nI i))] [] := by
    refine jj_loop ((a_mk a m).2.1) ?_ ?_
    · refine jj_iload_n F dX9_rewind_62 rfl ?_
      refine jj_aload_n F dX9_rewind_63 rfl ?_
      refine jj_geti F g95 (by assumption) (by rfl) dX9_rewind_64 ?_
      refine jj_topi (show _ = nI (a_mk a m).2.1 from rfl) ?_
      refine jj_icmp_ge F (tgt := 95) dX9_rewind_67 (by decide) (fun _ => ?_) (fun h9 => absurd (nI_le (by omega) (by omega)) h9)
      refine jj_iconst F (v := nI 0) dX9_rewind_95 (by decide) ?_
      refine jj_istore_n F dX9_rewind_96 (by rw [hnl]; decide) ?_
      dsimp only [lq_st, lq_clr, lq_no]
      refine lb _ (fun x h1 h2 h3 => ?_) (fun b hb => ?_) rfl rfl (fun i hi => ?_) (fun i hi => ?_) rfl
      · rw [wA_n h3, wA_n h2, wA_n h1, wA_n h1]
      · rcases hb with rfl | rfl | rfl | rfl <;> rfl
      · rw [wA_1n (by decide), wA_1s, fl_in hi]
      · rw [wA_1s, fl_in hi]
    · intro i hi ih
      refine jj_iload_n F dX9_rewind_62 rfl ?_
      refine jj_aload_n F dX9_rewind_63 rfl ?_
      refine jj_geti F g95 (by assumption) (by rfl) dX9_rewind_64 ?_
      refine jj_topi (show _ = nI (a_mk a m).2.1 from rfl) ?_
      refine jj_icmp_ge F (tgt := 95) dX9_rewind_67 (by decide) (fun h9 => absurd h9 (nI_ge (by omega) (by omega))) (fun _ => ?_)
      refine jj_aload_n F dX9_rewind_70 rfl ?_
      refine jj_getr F g28 (by assumption) (by rfl) dX9_rewind_71 ?_
      refine jj_iload_n F dX9_rewind_74 rfl ?_
      refine jj_aload_n F dX9_rewind_75 rfl ?_
      refine jj_iload_n F dX9_rewind_76 rfl ?_
      refine jj_iload_n F dX9_rewind_77 rfl ?_
      refine jj_callVi (na := 2) F (c_X9_wasActive (M := wA (wA (wA (thr M (nI 0)) 478 (upd ((thr M (nI 0)).1 478) 2 (nI (a_mk a m).2.1))) 485 (fl i (fun i => b2i ((a_mk a m).2.2.1 i)) (M.1 485))) 486 (fl i (fun _ => nI 0) (M.1 486))) (m := m) (k := i) hm (by omega)) (gl_V mk_X9_247 vw_X9_wasActive) rfl rfl rfl (by decide +kernel) ⟨Nat.le_of_ble_eq_true rfl, Nat.le_of_ble_eq_true rfl⟩ kM rfl rfl rfl (Nat.le_of_ble_eq_true rfl) ⟨Nat.le_of_ble_eq_true rfl, Nat.le_of_ble_eq_true rfl⟩ dX9_rewind_78 (fun r78 M78 hp78 => ?_)
      obtain ⟨rfl, rfl⟩ := symm2 hp78
      rw [show bl ((wA (wA (wA (thr M (nI 0)) 478 (upd ((thr M (nI 0)).1 478) 2 (nI (a_mk a m).2.1))) 485 (fl i (fun i => b2i ((a_mk a m).2.2.1 i)) (M.1 485))) 486 (fl i (fun _ => nI 0) (M.1 486))).2 494 m) i = (a_mk a m).2.2.1 i from k4 i hi]
      refine jj_zast F (by assumption) rfl (by omega) (by first | exact Or.inl rfl | exact Or.inr rfl | exact b2i_01 _ | assumption) dX9_rewind_81 ?_
      refine jj_aload_n F dX9_rewind_82 rfl ?_
      refine jj_getr F g32 (by assumption) (by rfl) dX9_rewind_83 ?_
      refine jj_iload_n F dX9_rewind_86 rfl ?_
      refine jj_iconst F (v := nI 0) dX9_rewind_87 (by decide) ?_
      refine jj_iast F (by assumption) rfl (by omega) dX9_rewind_88 ?_
      refine jj_iinc F dX9_rewind_89 rfl (by first | exact iinc1 _ | rfl) (by rw [hnl]; decide) ?_
      dsimp only [lq_st, lq_clr, lq_no]
      refine jj_goto F (tgt := 62) dX9_rewind_92 (by decide) ?_
      refine jj_eqM ?_ ih
      exact rw_put
  refine jj_aload_n F dX9_rewind_0 rfl ?_
  refine jj_iload_n F dX9_rewind_1 rfl ?_
  refine jj_callSi (na := 1) F c_X9_isMark (gl_S mk_X9_244 vw_X9_isMark) rfl rfl rfl (by decide +kernel) ⟨Nat.le_of_ble_eq_true rfl, Nat.le_of_ble_eq_true rfl⟩ rfl rfl (Nat.le_of_ble_eq_true rfl) ⟨Nat.le_of_ble_eq_true rfl, Nat.le_of_ble_eq_true rfl⟩ dX9_rewind_2 (fun r2 M2 hp2 => ?_)
  obtain ⟨rfl, rfl⟩ := symm2 hp2
  refine jj_if_ne F (tgt := 12) dX9_rewind_5 (by decide) (fun _ => ?_) (fun h9 => absurd h9 (by rw [hw]; decide))
  refine jj_aload_n F dX9_rewind_12 rfl ?_
  refine jj_getr F g60 (by assumption) (by rfl) dX9_rewind_13 ?_
  refine jj_iload_n F dX9_rewind_16 rfl ?_
  refine jj_zald F (by assumption) rfl (by omega) dX9_rewind_17 ?_
  rw [(hK m hm).1]
  refine jj_if_eq F (tgt := 25) dX9_rewind_18 (by decide) (fun h9 => absurd h9 (by rw [hs]; decide)) (fun _ => ?_)
  refine jj_iconst F (v := nI 0) dX9_rewind_21 (by decide) ?_
  refine jj_goto F (tgt := 26) dX9_rewind_22 (by decide) ?_
  refine jj_puti F p87 (by assumption) (by rfl) dX9_rewind_26 ?_
  refine jj_aload_n F dX9_rewind_29 rfl ?_
  refine jj_geti F g87 (by assumption) (by rfl) dX9_rewind_30 ?_
  rw [thr_0]
  refine jj_if_le F (tgt := 38) dX9_rewind_33 (by decide) (fun _ => ?_) (fun h9 => absurd (by decide) h9)
  refine jj_aload_n F dX9_rewind_38 rfl ?_
  refine jj_geti F g95 (by assumption) (by rfl) dX9_rewind_39 ?_
  refine jj_topi (show _ = nI (a_n a) from hn) ?_
  refine jj_aload_n F dX9_rewind_42 rfl ?_
  refine jj_getr F g51 (by assumption) (by rfl) dX9_rewind_43 ?_
  refine jj_iload_n F dX9_rewind_46 rfl ?_
  refine jj_iald F (by assumption) rfl (by omega) dX9_rewind_47 ?_
  refine jj_topi (show _ = nI (a_mk a m).2.1 from k1) ?_
  refine jj_isub F dX9_rewind_48 ?_
  rw [pk_sub k2]
  refine jj_istore_n F dX9_rewind_49 (by rw [hnl]; decide) ?_
  dsimp only [lq_st, lq_clr, lq_no]
  refine jj_aload_n F dX9_rewind_50 rfl ?_
  refine jj_aload_n F dX9_rewind_51 rfl ?_
  refine jj_getr F g51 (by assumption) (by rfl) dX9_rewind_52 ?_
  refine jj_iload_n F dX9_rewind_55 rfl ?_
  refine jj_iald F (by assumption) rfl (by omega) dX9_rewind_56 ?_
  refine jj_topi (show _ = nI (a_mk a m).2.1 from k1) ?_
  refine jj_puti F p95 (by assumption) (by rfl) dX9_rewind_57 ?_
  refine jj_iconst F (v := nI 0) dX9_rewind_60 (by decide) ?_
  refine jj_istore_n F dX9_rewind_61 (by rw [hnl]; decide) ?_
  dsimp only [lq_st, lq_clr, lq_no]
  refine jj_eqM ?_ (l1 0 (Nat.zero_le _))
  rw [fl_z, fl_z]
  refine mm_ext (fun x => ?_) rfl
  by_cases q : x = 486
  · subst q; rw [wA_s]; rfl
  · rw [wA_n q]
    by_cases q2 : x = 485
    · subst q2; rw [wA_s]; rfl
    · rw [wA_n q2]
