theorem kd_479 : kd 479 = .inr (0, 60, 0, 0) := by decide +kernel
theorem kd_480 : kd 480 = .inr (0, 60, 0, 0) := by decide +kernel
theorem kd_481 : kd 481 = .inr (0, 60, 0, 0) := by decide +kernel
theorem kd_482 : kd 482 = .inr (0, 60, 0, 0) := by decide +kernel
theorem kd_483 : kd 483 = .inr (0, 60, 0, 0) := by decide +kernel
theorem kd_484 : kd 484 = .inr (0, 60, 0, 0) := by decide +kernel
theorem kd_485 : kd 485 = .inr (1, 60, 0, 0) := by decide +kernel
theorem kd_486 : kd 486 = .inr (0, 60, 0, 0) := by decide +kernel
theorem kd_487 : kd 487 = .inr (2, 240, 0, 0) := by decide +kernel
theorem kd_488 : kd 488 = .inr (0, 6, 0, 0) := by decide +kernel
theorem kd_489 : kd 489 = .inr (0, 6, 0, 0) := by decide +kernel
theorem kd_490 : kd 490 = .inr (0, 6, 0, 0) := by decide +kernel
theorem kd_491 : kd 491 = .inr (0, 6, 0, 0) := by decide +kernel
theorem kd_492 : kd 492 = .inr (0, 6, 0, 0) := by decide +kernel
theorem kd_493 : kd 493 = .inr (0, 6, 0, 0) := by decide +kernel
theorem kd_494 : kd 494 = .inr (2, 6, 0, 0) := by decide +kernel
theorem kd_495 : kd 495 = .inr (1, 6, 0, 0) := by decide +kernel
theorem kd_496 : kd 496 = .inr (0, 40, 0, 0) := by decide +kernel
theorem kd_497 : kd 497 = .inr (2, 240, 0, 0) := by decide +kernel
theorem kd_498 : kd 498 = .inr (1, 60, 0, 0) := by decide +kernel
theorem kd_499 : kd 499 = .inr (0, 256, 0, 0) := by decide +kernel
theorem kd_500 : kd 500 = .inr (0, 256, 0, 0) := by decide +kernel
theorem kd_501 : kd 501 = .inr (0, 12, 0, 0) := by decide +kernel
theorem kd_502 : kd 502 = .inr (2, 4, 0, 0) := by decide +kernel
theorem kd_503 : kd 503 = .inr (1, 256, 0, 0) := by decide +kernel
theorem sh_u : ∀ j, j < 64 → (((nI j).toInt64.toUInt64 &&& Int64.toUInt64 63).toBitVec % 64).toNat = j := by decide +kernel
theorem bl_1 : ∀ i, i < 64 → bl (lN 1) i = decide (i = 0) := by decide +kernel
theorem bl_shl : ∀ j, j < 64 → ∀ i, i < 64 → bl (lN 1 <<< ((nI j).toInt64 &&& 63)) i = decide (i = j) := by decide +kernel
theorem bl_shr (x : Int64) {j i : Nat} (hj : j < 64) : bl ((x.toUInt64 >>> ((nI j).toInt64.toUInt64 &&& Int64.toUInt64 63)).toInt64) i = bl x (j + i) := by
  show (x.toBitVec >>> (((nI j).toInt64.toUInt64 &&& Int64.toUInt64 63).toBitVec % 64).toNat).getLsbD i = _
  rw [sh_u j hj, BitVec.getLsbD_ushiftRight]
  rfl
theorem bl_bit (x : Int64) {j : Nat} (hj : j < 64) : ((x.toUInt64 >>> ((nI j).toInt64.toUInt64 &&& Int64.toUInt64 63)).toInt64) &&& lN 1 = if bl x j = true then lN 1 else lN 0 := by
  apply bl_ext
  intro i hi
  rw [bl_and, bl_shr x hj, bl_1 i hi]
  by_cases h : i = 0
  · subst h
    rw [Nat.add_zero]
    cases hb : bl x j
    · simp [bl_0]
    · simp [bl_1 0 (by omega)]
  · cases hb : bl x j
    · simp [h, bl_0]
    · simp [h, bl_1 i hi]
theorem cmp_bit (b : Bool) : lg_cmp (if b = true then lN 1 else lN 0) (lN 1) = 0 ↔ b = true := by cases b <;> decide
/-- many sets, four longs each -/
def lws (C : Nat → Nat → Bool) : Nat → Int64 := fun q => lwOf (C (q / 4)) (q % 4)
theorem lws_at (C : Nat → Nat → Bool) {k c : Nat} (hc : c < 256) : bl (lws C (4 * k + c / 64)) (c % 64) = C k c := by
  unfold lws
  rw [bl_lw _ _ _ (by omega), show (4 * k + c / 64) / 4 = k by omega, show 64 * ((4 * k + c / 64) % 4) + c % 64 = c by omega]
theorem lws_w (C : Nat → Nat → Bool) {k w : Nat} (hw : w < 4) : lws C (4 * k + w) = lwOf (C k) w := by
  unfold lws
  rw [show (4 * k + w) / 4 = k by omega, show (4 * k + w) % 4 = w by omega]
theorem lw_cong {S T : Nat → Bool} {w : Nat} (h : ∀ x, x < 64 → S (64 * w + x) = T (64 * w + x)) : lwOf S w = lwOf T w := by
  unfold lwOf
  rw [bsum_cong h]
theorem lws_upd {C D : Nat → Nat → Bool} {q : Nat} {v : Int64} (hv : v = lws D q) (ho : ∀ p, p ≠ q → lws C p = lws D p) : vp_updL (lws C) q v = lws D := by
  funext p
  by_cases h : p = q
  · subst h; simp [vp_updL, hv]
  · simp only [vp_updL, if_neg h]
    exact ho p h
theorem lw_and (S T : Nat → Bool) (w : Nat) : lwOf S w &&& lwOf T w = lwOf (fun c => S c && T c) w := by
  apply bl_ext
  intro i hi
  rw [bl_and, bl_lw _ _ _ hi, bl_lw _ _ _ hi, bl_lw _ _ _ hi]
theorem lw_sub (S T : Nat → Bool) (w : Nat) : lwOf S w &&& (lwOf T w ^^^ -1) = lwOf (fun c => S c && !T c) w := by
  apply bl_ext
  intro i hi
  rw [bl_and, bl_xor, bl_m1 i hi, bl_lw _ _ _ hi, bl_lw _ _ _ hi, bl_lw _ _ _ hi]
  simp
theorem lw_m1 (S : Nat → Bool) (w : Nat) : lwOf S w &&& -1 = lwOf S w := by
  apply bl_ext
  intro i hi
  rw [bl_and, bl_m1 i hi]
  simp
theorem lw_0 (w : Nat) : lN 0 = lwOf (fun _ => false) w := by
  apply bl_ext
  intro i hi
  rw [bl_0, bl_lw _ _ _ hi]
theorem lw_and0 (x : Int64) : x &&& lN 0 = lN 0 := by
  apply bl_ext
  intro i hi
  rw [bl_and, bl_0]
  simp
theorem cmp_eq {x y : Int64} : lg_cmp x y = 0 ↔ x = y := lg_cmp_eq x y
theorem lw_is0 (S : Nat → Bool) (w : Nat) : lg_cmp (lwOf S w) (lN 0) = 0 ↔ ∀ x, x < 64 → S (64 * w + x) = false := by
  have e : lg_cmp (lwOf S w) (lN 0) = 0 ↔ lwOf S w = lN 0 := cmp_eq
  rw [e]
  constructor
  · intro h x hx
    have := congrArg (fun z => bl z x) h
    simp only [bl_lw _ _ _ hx, bl_0] at this
    exact this
  · intro h
    apply bl_ext
    intro i hi
    rw [bl_lw _ _ _ hi, bl_0]
    exact h i hi
def wiB (x lo hi : Int32) : Bool := decide (lo ≤ x) && decide (x ≤ hi)
set_option maxRecDepth 100000 in
set_option maxHeartbeats 1000000 in
theorem c_X9_within {l : Launch} {E : Ee} {M : Mm} {x lo hi : Int32} : CtI l E yX9_within (.code yX9_within cX9_within 3 (some .boolean) :: gl) ({ frames := 0, cells := 0, slots := 0, locals := 0 } : Room) M [.int x, .int lo, .int hi] 0 0 (fun r M2 => r = b2i (wiB x lo hi) ∧ M2 = M) := by
  refine ctI_of (L0 := [some (.int x), some (.int lo), some (.int hi)]) (by decide) rfl (Nat.le_of_ble_eq_true rfl) rfl ?_
  intro Z hl hE hnl F ret
  subst hE
  refine jj_iload_n F dX9_within_0 rfl ?_
  refine jj_iload_n F dX9_within_1 rfl ?_
  refine jj_icmp_lt F (tgt := 14) dX9_within_2 (by decide) (fun h2 => ?_) (fun h2 => ?_)
  · refine jj_iconst F (v := nI 0) dX9_within_14 (by decide) ?_
    refine ret _ _ _ _ dX9_within_15 (nar_z (Or.inl rfl)) ⟨b2i_f ?_, rfl⟩
    first
    | (simp [wiB, i32_lt_nle h2]; done)
    | (simp [wiB, i32_lt_nle h7]; done)
  · refine jj_iload_n F dX9_within_5 rfl ?_
    refine jj_iload_n F dX9_within_6 rfl ?_
    refine jj_icmp_gt F (tgt := 14) dX9_within_7 (by decide) (fun h7 => ?_) (fun h7 => ?_)
    · refine jj_iconst F (v := nI 0) dX9_within_14 (by decide) ?_
      refine ret _ _ _ _ dX9_within_15 (nar_z (Or.inl rfl)) ⟨b2i_f ?_, rfl⟩
      first
      | (simp [wiB, i32_lt_nle h2]; done)
      | (simp [wiB, i32_lt_nle h7]; done)
    · refine jj_iconst F (v := nI 1) dX9_within_10 (by decide) ?_
      refine jj_goto F (tgt := 15) dX9_within_11 (by decide) ?_
      refine ret _ _ _ _ dX9_within_15 (nar_z (Or.inr rfl)) ⟨b2i_t ?_, rfl⟩
      simp [wiB, i32_nlt h2, i32_nlt h7]
set_option maxRecDepth 100000 in
set_option maxHeartbeats 1000000 in
theorem c_X9_isUser {l : Launch} {E : Ee} {M : Mm} {x : Int32} : CtI l E yX9_isUser (.code yX9_isUser cX9_isUser 1 (some .boolean) :: gl) ({ frames := 1, cells := 0, slots := 0, locals := 22 } : Room) M [.int x] 0 0 (fun r M2 => r = b2i (wiB x (nI 0) (nI 4)) ∧ M2 = M) := by
  refine ctI_of (L0 := [some (.int x)]) (by decide) rfl (Nat.le_of_ble_eq_true rfl) rfl ?_
  intro Z hl hE hnl F ret
  subst hE
  refine jj_iload_n F dX9_isUser_0 rfl ?_
  refine jj_iconst F (v := nI 0) dX9_isUser_1 (by decide) ?_
  refine jj_iconst F (v := nI 4) dX9_isUser_2 (by decide) ?_
  refine jj_callSi (na := 3) F c_X9_within (gl_S mk_X9_91 vw_X9_within) rfl rfl rfl (by decide +kernel) ⟨Nat.le_of_ble_eq_true rfl, Nat.le_of_ble_eq_true rfl⟩ rfl rfl (Nat.le_of_ble_eq_true rfl) ⟨Nat.le_of_ble_eq_true rfl, Nat.le_of_ble_eq_true rfl⟩ dX9_isUser_3 (fun r3 M3 hp3 => ?_)
  obtain ⟨rfl, rfl⟩ := symm2 hp3
  refine ret _ _ _ _ dX9_isUser_6 (by first | rfl | exact nar_z (by first | exact Or.inl rfl | exact Or.inr rfl | exact b2i_01 _ | assumption)) ?_
  exact ⟨rfl, rfl⟩
set_option maxRecDepth 100000 in
set_option maxHeartbeats 1000000 in
theorem c_X9_isCell {l : Launch} {E : Ee} {M : Mm} {x : Int32} : CtI l E yX9_isCell (.code yX9_isCell cX9_isCell 1 (some .boolean) :: gl) ({ frames := 1, cells := 0, slots := 0, locals := 22 } : Room) M [.int x] 0 0 (fun r M2 => r = b2i (wiB x (nI 0) (nI 255)) ∧ M2 = M) := by
  refine ctI_of (L0 := [some (.int x)]) (by decide) rfl (Nat.le_of_ble_eq_true rfl) rfl ?_
  intro Z hl hE hnl F ret
  subst hE
  refine jj_iload_n F dX9_isCell_0 rfl ?_
  refine jj_iconst F (v := nI 0) dX9_isCell_1 (by decide) ?_
  refine jj_sipush F (v := nI 255) dX9_isCell_2 (by decide) ?_
  refine jj_callSi (na := 3) F c_X9_within (gl_S mk_X9_91 vw_X9_within) rfl rfl rfl (by decide +kernel) ⟨Nat.le_of_ble_eq_true rfl, Nat.le_of_ble_eq_true rfl⟩ rfl rfl (Nat.le_of_ble_eq_true rfl) ⟨Nat.le_of_ble_eq_true rfl, Nat.le_of_ble_eq_true rfl⟩ dX9_isCell_5 (fun r5 M5 hp5 => ?_)
  obtain ⟨rfl, rfl⟩ := symm2 hp5
  refine ret _ _ _ _ dX9_isCell_8 (by first | rfl | exact nar_z (by first | exact Or.inl rfl | exact Or.inr rfl | exact b2i_01 _ | assumption)) ?_
  exact ⟨rfl, rfl⟩
set_option maxRecDepth 100000 in
set_option maxHeartbeats 1000000 in
theorem c_X9_isMark {l : Launch} {E : Ee} {M : Mm} {x : Int32} : CtI l E yX9_isMark (.code yX9_isMark cX9_isMark 1 (some .boolean) :: gl) ({ frames := 1, cells := 0, slots := 0, locals := 22 } : Room) M [.int x] 0 0 (fun r M2 => r = b2i (wiB x (nI 0) (nI 5)) ∧ M2 = M) := by
  refine ctI_of (L0 := [some (.int x)]) (by decide) rfl (Nat.le_of_ble_eq_true rfl) rfl ?_
  intro Z hl hE hnl F ret
  subst hE
  refine jj_iload_n F dX9_isMark_0 rfl ?_
  refine jj_iconst F (v := nI 0) dX9_isMark_1 (by decide) ?_
  refine jj_iconst F (v := nI 5) dX9_isMark_2 (by decide) ?_
  refine jj_callSi (na := 3) F c_X9_within (gl_S mk_X9_91 vw_X9_within) rfl rfl rfl (by decide +kernel) ⟨Nat.le_of_ble_eq_true rfl, Nat.le_of_ble_eq_true rfl⟩ rfl rfl (Nat.le_of_ble_eq_true rfl) ⟨Nat.le_of_ble_eq_true rfl, Nat.le_of_ble_eq_true rfl⟩ dX9_isMark_3 (fun r3 M3 hp3 => ?_)
  obtain ⟨rfl, rfl⟩ := symm2 hp3
  refine ret _ _ _ _ dX9_isMark_6 (by first | rfl | exact nar_z (by first | exact Or.inl rfl | exact Or.inr rfl | exact b2i_01 _ | assumption)) ?_
  exact ⟨rfl, rfl⟩
set_option maxRecDepth 100000 in
set_option maxHeartbeats 1000000 in
theorem c_X9_isOperation {l : Launch} {E : Ee} {M : Mm} {x : Int32} : CtI l E yX9_isOperation (.code yX9_isOperation cX9_isOperation 2 (some .boolean) :: gl) ({ frames := 1, cells := 0, slots := 0, locals := 22 } : Room) M [.ref (E.2.2 478), .int x] 0 0 (fun r M2 => r = b2i (wiB x (nI 0) (M.1 478 2 - nI 1)) ∧ M2 = M) := by
  refine ctI_of (L0 := [some (.ref (E.2.2 478)), some (.int x)]) (by decide) rfl (Nat.le_of_ble_eq_true rfl) rfl ?_
  intro Z hl hE hnl F ret
  subst hE
  have in_X9 : ∀ w ∈ u_ws RX9 TX9 33, w ∈ (.code yX9_isOperation cX9_isOperation 2 (some .boolean) :: gl) := fun w h => List.mem_cons_of_mem _ (lay_X9 w h)
  have g95 : FG Z 95 9 2 := fg_mk F (C := RX9) (T := TX9) (N := 33) in_X9 rfl (by decide) rfl (List.mem_cons_of_mem _ fk_X9_95)
  have kM := kd_M
  have k479 := kd_479
  have k480 := kd_480
  have k481 := kd_481
  have k482 := kd_482
  have k483 := kd_483
  have k484 := kd_484
  have k485 := kd_485
  have k486 := kd_486
  have k487 := kd_487
  have k488 := kd_488
  have k489 := kd_489
  have k490 := kd_490
  have k491 := kd_491
  have k492 := kd_492
  have k493 := kd_493
  have k494 := kd_494
  have k495 := kd_495
  have k496 := kd_496
  have k497 := kd_497
  have k498 := kd_498
  have k499 := kd_499
  have k500 := kd_500
  have k501 := kd_501
  have k502 := kd_502
  have k503 := kd_503
  refine jj_iload_n F dX9_isOperation_0 rfl ?_
  refine jj_iconst F (v := nI 0) dX9_isOperation_1 (by decide) ?_
  refine jj_aload_n F dX9_isOperation_2 rfl ?_
  refine jj_geti F g95 (by assumption) (by rfl) dX9_isOperation_3 ?_
  refine jj_iconst F (v := nI 1) dX9_isOperation_6 (by decide) ?_
  refine jj_isub F dX9_isOperation_7 ?_
  refine jj_callSi (na := 3) F c_X9_within (gl_S mk_X9_91 vw_X9_within) rfl rfl rfl (by decide +kernel) ⟨Nat.le_of_ble_eq_true rfl, Nat.le_of_ble_eq_true rfl⟩ rfl rfl (Nat.le_of_ble_eq_true rfl) ⟨Nat.le_of_ble_eq_true rfl, Nat.le_of_ble_eq_true rfl⟩ dX9_isOperation_8 (fun r8 M8 hp8 => ?_)
  obtain ⟨rfl, rfl⟩ := symm2 hp8
  refine ret _ _ _ _ dX9_isOperation_11 (by first | rfl | exact nar_z (by first | exact Or.inl rfl | exact Or.inr rfl | exact b2i_01 _ | assumption)) ?_
  exact ⟨rfl, rfl⟩
set_option maxRecDepth 100000 in
set_option maxHeartbeats 1000000 in
theorem c_X9_size {l : Launch} {E : Ee} {M : Mm} {x : Int64} : CtI l E yX9_size (.code yX9_size cX9_size 4 (some .int) :: gl) ({ frames := 0, cells := 0, slots := 0, locals := 0 } : Room) M [.long x] 0 0 (fun r M2 => r = nI (fb_ct (bl x) 64) ∧ M2 = M) := by
  refine ctI_of (L0 := [some (.long x), none, none, none]) (by decide) rfl (Nat.le_of_ble_eq_true rfl) rfl ?_
  intro Z hl hE hnl F ret
  subst hE
  have lo : ∀ i, i ≤ 64 → JJ Z (0, 0) (M) 4 [some (.long x), none, some (.int (nI (fb_ct (bl x) i))), some (.int (nI i))] [] := by
    refine jj_loop (64) ?_ ?_
    · refine jj_iload_n F dX9_size_4 rfl ?_
      refine jj_bipush F (v := nI 64) dX9_size_5 (by decide) ?_
      refine jj_icmp_ge F (tgt := 26) dX9_size_7 (by decide) (fun _ => ?_) (fun h9 => absurd (nI_le (by omega) (by omega)) h9)
      refine jj_iload_n F dX9_size_26 rfl ?_
      exact ret _ _ _ _ dX9_size_27 rfl ⟨rfl, rfl⟩
    · intro i hi ih
      refine jj_iload_n F dX9_size_4 rfl ?_
      refine jj_bipush F (v := nI 64) dX9_size_5 (by decide) ?_
      refine jj_icmp_ge F (tgt := 26) dX9_size_7 (by decide) (fun h9 => absurd h9 (nI_ge (by omega) (by omega))) (fun _ => ?_)
      refine jj_iload_n F dX9_size_10 rfl ?_
      refine jj_i2l F dX9_size_11 ?_
      refine jj_lload_n F dX9_size_12 rfl ?_
      refine jj_iload_n F dX9_size_13 rfl ?_
      refine jj_lushr F dX9_size_14 ?_
      refine jj_lconst F (v := lN 1) dX9_size_15 (by decide) ?_
      refine jj_land F dX9_size_16 ?_
      rw [bl_bit _ hi]
      refine jj_ladd F dX9_size_17 ?_
      refine jj_l2i F dX9_size_18 ?_
      refine jj_istore_n F dX9_size_19 (by rw [hnl]; decide) ?_
      dsimp only [lq_st, lq_clr, lq_no]
      refine jj_iinc F dX9_size_20 rfl (by first | exact iinc1 _ | rfl) (by rw [hnl]; decide) ?_
      dsimp only [lq_st, lq_clr, lq_no]
      refine jj_goto F (tgt := 4) dX9_size_23 (by decide) ?_
      refine jj_eqL ?_ ih
      rw [fb_ct_succ, nI_l (by have := fb_ct_le (bl x) i; omega)]
      cases hb : bl x i
      · simp only [Bool.false_eq_true, if_false, lN_add, lN_i]
      · simp only [if_true, lN_add, lN_i]
  refine jj_iconst F (v := nI 0) dX9_size_0 (by decide) ?_
  refine jj_istore_n F dX9_size_1 (by rw [hnl]; decide) ?_
  dsimp only [lq_st, lq_clr, lq_no]
  refine jj_iconst F (v := nI 0) dX9_size_2 (by decide) ?_
  refine jj_istore_n F dX9_size_3 (by rw [hnl]; decide) ?_
  dsimp only [lq_st, lq_clr, lq_no]
  exact lo 0 (by omega)
set_option maxRecDepth 100000 in
set_option maxHeartbeats 1000000 in
theorem c_X9_hasIn {l : Launch} {E : Ee} {M : Mm} {r k c : Nat} {C : Nat → Nat → Bool} (hr : kd r = .inr (2, 240, 0, 0)) (hC : M.2 r = lws C) (hk : k < 60) (hc : c < 256) : CtI l E yX9_hasIn (.code yX9_hasIn cX9_hasIn 3 (some .boolean) :: gl) ({ frames := 0, cells := 0, slots := 0, locals := 0 } : Room) M [.ref (E.2.2 r), .int (nI k), .int (nI c)] 0 0 (fun r M2 => r = b2i (C k c) ∧ M2 = M) := by
  refine ctI_of (L0 := [some (.ref (E.2.2 r)), some (.int (nI k)), some (.int (nI c))]) (by decide) rfl (Nat.le_of_ble_eq_true rfl) rfl ?_
  intro Z hl hE hnl F ret
  subst hE
  refine jj_aload_n F dX9_hasIn_0 rfl ?_
  refine jj_iconst F (v := nI 4) dX9_hasIn_1 (by decide) ?_
  refine jj_iload_n F dX9_hasIn_2 rfl ?_
  refine jj_imul F dX9_hasIn_3 ?_
  rw [pk_mul]
  refine jj_iload_n F dX9_hasIn_4 rfl ?_
  refine jj_bipush F (v := nI 64) dX9_hasIn_5 (by decide) ?_
  refine jj_idiv F dX9_hasIn_7 (by first | decide | assumption) ?_
  rw [show nI c / nI 64 = nI (c / 64) from pk_div (by omega) (by omega) (by omega)]
  refine jj_iadd F dX9_hasIn_8 ?_
  rw [nI_add]
  refine jj_lald F (by assumption) rfl (by omega) dX9_hasIn_9 ?_
  refine jj_iload_n F dX9_hasIn_10 rfl ?_
  refine jj_bipush F (v := nI 64) dX9_hasIn_11 (by decide) ?_
  refine jj_irem F dX9_hasIn_13 (by first | decide | assumption) ?_
  rw [show nI c - nI c / nI 64 * nI 64 = nI (c % 64) from pk_rem (by omega) (by omega) (by omega)]
  refine jj_lushr F dX9_hasIn_14 ?_
  refine jj_lconst F (v := lN 1) dX9_hasIn_15 (by decide) ?_
  refine jj_land F dX9_hasIn_16 ?_
  rw [hC, bl_bit _ (by omega), lws_at C hc]
  refine jj_lconst F (v := lN 1) dX9_hasIn_17 (by decide) ?_
  refine jj_lcmp F dX9_hasIn_18 ?_
  refine jj_if_ne F (tgt := 26) dX9_hasIn_19 (by decide) (fun h19 => ?_) (fun h19 => ?_)
  · refine jj_iconst F (v := nI 0) dX9_hasIn_26 (by decide) ?_
    refine ret _ _ _ _ dX9_hasIn_27 (nar_z (Or.inl rfl)) ⟨b2i_f ?_, rfl⟩
    cases hb : C k c with
    | false => rfl
    | true => exact absurd ((cmp_bit _).mpr hb) h19
  · refine jj_iconst F (v := nI 1) dX9_hasIn_22 (by decide) ?_
    refine jj_goto F (tgt := 27) dX9_hasIn_23 (by decide) ?_
    refine ret _ _ _ _ dX9_hasIn_27 (nar_z (Or.inr rfl)) ⟨b2i_t ?_, rfl⟩
    exact (cmp_bit _).mp h19
theorem lw_ct (S : Nat → Bool) (w : Nat) : fb_ct (bl (lwOf S w)) 64 = fb_ct (fun x => S (64 * w + x)) 64 := fb_ct_cong (fun x hx => bl_lw S w x hx)
theorem csz_4 (S : Nat → Bool) : fb_ct (bl (lwOf S 0)) 64 + fb_ct (bl (lwOf S 1)) 64 + fb_ct (bl (lwOf S 2)) 64 + fb_ct (bl (lwOf S 3)) 64 = csz S := by
  rw [lw_ct, lw_ct, lw_ct, lw_ct]
  unfold csz
  rw [show (256 : Nat) = 64 + 64 + 64 + 64 from rfl, fb_ct_split S (64 + 64 + 64) 64, fb_ct_split S (64 + 64) 64, fb_ct_split S 64 64]
  congr 3
set_option maxRecDepth 100000 in
set_option maxHeartbeats 1000000 in
theorem c_X9_sizeIn {l : Launch} {E : Ee} {M : Mm} {r k : Nat} {C : Nat → Nat → Bool} (hr : kd r = .inr (2, 240, 0, 0)) (hC : M.2 r = lws C) (hk : k < 60) : CtI l E yX9_sizeIn (.code yX9_sizeIn cX9_sizeIn 2 (some .int) :: gl) ({ frames := 1, cells := 0, slots := 0, locals := 23 } : Room) M [.ref (E.2.2 r), .int (nI k)] 0 0 (fun r M2 => r = nI (csz (C k)) ∧ M2 = M) := by
  refine ctI_of (L0 := [some (.ref (E.2.2 r)), some (.int (nI k))]) (by decide) rfl (Nat.le_of_ble_eq_true rfl) rfl ?_
  intro Z hl hE hnl F ret
  subst hE
  refine jj_aload_n F dX9_sizeIn_0 rfl ?_
  refine jj_iconst F (v := nI 4) dX9_sizeIn_1 (by decide) ?_
  refine jj_iload_n F dX9_sizeIn_2 rfl ?_
  refine jj_imul F dX9_sizeIn_3 ?_
  rw [pk_mul]
  refine jj_lald F (by assumption) rfl (by omega) dX9_sizeIn_4 ?_
  rw [hC, show 4 * k = 4 * k + 0 from rfl, lws_w C (by omega)]
  refine jj_callSi (na := 1) F c_X9_size (gl_S mk_X9_98 vw_X9_size) rfl rfl rfl (by decide +kernel) ⟨Nat.le_of_ble_eq_true rfl, Nat.le_of_ble_eq_true rfl⟩ rfl rfl (Nat.le_of_ble_eq_true rfl) ⟨Nat.le_of_ble_eq_true rfl, Nat.le_of_ble_eq_true rfl⟩ dX9_sizeIn_5 (fun r5 M5 hp5 => ?_)
  obtain ⟨rfl, rfl⟩ := symm2 hp5
  refine jj_aload_n F dX9_sizeIn_8 rfl ?_
  refine jj_iconst F (v := nI 4) dX9_sizeIn_9 (by decide) ?_
  refine jj_iload_n F dX9_sizeIn_10 rfl ?_
  refine jj_imul F dX9_sizeIn_11 ?_
  rw [pk_mul]
  refine jj_iconst F (v := nI 1) dX9_sizeIn_12 (by decide) ?_
  refine jj_iadd F dX9_sizeIn_13 ?_
  rw [nI_add]
  refine jj_lald F (by assumption) rfl (by omega) dX9_sizeIn_14 ?_
  rw [hC, lws_w C (by omega)]
  refine jj_callSi (na := 1) F c_X9_size (gl_S mk_X9_98 vw_X9_size) rfl rfl rfl (by decide +kernel) ⟨Nat.le_of_ble_eq_true rfl, Nat.le_of_ble_eq_true rfl⟩ rfl rfl (Nat.le_of_ble_eq_true rfl) ⟨Nat.le_of_ble_eq_true rfl, Nat.le_of_ble_eq_true rfl⟩ dX9_sizeIn_15 (fun r15 M15 hp15 => ?_)
  obtain ⟨rfl, rfl⟩ := symm2 hp15
  refine jj_iadd F dX9_sizeIn_18 ?_
  refine jj_aload_n F dX9_sizeIn_19 rfl ?_
  refine jj_iconst F (v := nI 4) dX9_sizeIn_20 (by decide) ?_
  refine jj_iload_n F dX9_sizeIn_21 rfl ?_
  refine jj_imul F dX9_sizeIn_22 ?_
  rw [pk_mul]
  refine jj_iconst F (v := nI 2) dX9_sizeIn_23 (by decide) ?_
  refine jj_iadd F dX9_sizeIn_24 ?_
  rw [nI_add]
  refine jj_lald F (by assumption) rfl (by omega) dX9_sizeIn_25 ?_
  rw [hC, lws_w C (by omega)]
  refine jj_callSi (na := 1) F c_X9_size (gl_S mk_X9_98 vw_X9_size) rfl rfl rfl (by decide +kernel) ⟨Nat.le_of_ble_eq_true rfl, Nat.le_of_ble_eq_true rfl⟩ rfl rfl (Nat.le_of_ble_eq_true rfl) ⟨Nat.le_of_ble_eq_true rfl, Nat.le_of_ble_eq_true rfl⟩ dX9_sizeIn_26 (fun r26 M26 hp26 => ?_)
  obtain ⟨rfl, rfl⟩ := symm2 hp26
  refine jj_iadd F dX9_sizeIn_29 ?_
  refine jj_aload_n F dX9_sizeIn_30 rfl ?_
  refine jj_iconst F (v := nI 4) dX9_sizeIn_31 (by decide) ?_
  refine jj_iload_n F dX9_sizeIn_32 rfl ?_
  refine jj_imul F dX9_sizeIn_33 ?_
  rw [pk_mul]
  refine jj_iconst F (v := nI 3) dX9_sizeIn_34 (by decide) ?_
  refine jj_iadd F dX9_sizeIn_35 ?_
  rw [nI_add]
  refine jj_lald F (by assumption) rfl (by omega) dX9_sizeIn_36 ?_
  rw [hC, lws_w C (by omega)]
  refine jj_callSi (na := 1) F c_X9_size (gl_S mk_X9_98 vw_X9_size) rfl rfl rfl (by decide +kernel) ⟨Nat.le_of_ble_eq_true rfl, Nat.le_of_ble_eq_true rfl⟩ rfl rfl (Nat.le_of_ble_eq_true rfl) ⟨Nat.le_of_ble_eq_true rfl, Nat.le_of_ble_eq_true rfl⟩ dX9_sizeIn_37 (fun r37 M37 hp37 => ?_)
  obtain ⟨rfl, rfl⟩ := symm2 hp37
  refine jj_iadd F dX9_sizeIn_40 ?_
  refine ret _ _ _ _ dX9_sizeIn_41 (by first | rfl | exact nar_z (by first | exact Or.inl rfl | exact Or.inr rfl | exact b2i_01 _ | assumption)) ?_
  refine ⟨?_, rfl⟩
  rw [nI_add, nI_add, nI_add, csz_4]
theorem ex_4 {S : Nat → Bool} {i : Nat} {b : Bool} (hb : b = exB (64 * i) S) : (b = true ∨ ¬ ∀ x, x < 64 → S (64 * i + x) = false) → exB (64 * (i + 1)) S = true := by
  rintro (h | h)
  · rw [hb, exB_iff] at h
    obtain ⟨x, hx, hs⟩ := h
    exact exB_t (by omega) hs
  · by_cases q : ∃ x, x < 64 ∧ S (64 * i + x) = true
    · obtain ⟨x, hx, hs⟩ := q
      exact exB_t (i := 64 * i + x) (by omega) hs
    · exact absurd (fun x hx => by cases e : S (64 * i + x) with | false => rfl | true => exact absurd ⟨x, hx, e⟩ q) h
theorem ex_4f {S : Nat → Bool} {i : Nat} (h1 : exB (64 * i) S = false) (h2 : ∀ x, x < 64 → S (64 * i + x) = false) : exB (64 * (i + 1)) S = false := exB_f (fun c hc => by
  by_cases q : c < 64 * i
  · cases e : S c with
    | false => rfl
    | true => rw [exB_t q e] at h1; cases h1
  · have := h2 (c - 64 * i) (by omega)
    rwa [show 64 * i + (c - 64 * i) = c by omega] at this)
set_option maxRecDepth 100000 in
set_option maxHeartbeats 1000000 in
theorem c_X9_meets {l : Launch} {E : Ee} {M : Mm} {one er : Nat} {L C : Nat → Nat → Bool} (hL : M.2 497 = lws L) (hC : M.2 487 = lws C) (h1 : one < 60) (h2 : er < 60) : CtI l E yX9_meets (.code yX9_meets cX9_meets 5 (some .boolean) :: gl) ({ frames := 0, cells := 0, slots := 0, locals := 0 } : Room) M [.ref (E.2.2 478), .int (nI one), .int (nI er)] 0 0 (fun r M2 => r = b2i (exB 256 (fun c => L one c && C er c)) ∧ M2 = M) := by
  refine ctI_of (L0 := [some (.ref (E.2.2 478)), some (.int (nI one)), some (.int (nI er)), none, none]) (by decide) rfl (Nat.le_of_ble_eq_true rfl) rfl ?_
  intro Z hl hE hnl F ret
  subst hE
  have in_X9 : ∀ w ∈ u_ws RX9 TX9 33, w ∈ (.code yX9_meets cX9_meets 5 (some .boolean) :: gl) := fun w h => List.mem_cons_of_mem _ (lay_X9 w h)
  have g35 : FG Z 35 9 12 := fg_mk F (C := RX9) (T := TX9) (N := 33) in_X9 rfl (by decide) rfl (List.mem_cons_of_mem _ fk_X9_35)
  have g66 : FG Z 66 9 24 := fg_mk F (C := RX9) (T := TX9) (N := 33) in_X9 rfl (by decide) rfl (List.mem_cons_of_mem _ fk_X9_66)
  have kM := kd_M
  have k479 := kd_479
  have k480 := kd_480
  have k481 := kd_481
  have k482 := kd_482
  have k483 := kd_483
  have k484 := kd_484
  have k485 := kd_485
  have k486 := kd_486
  have k487 := kd_487
  have k488 := kd_488
  have k489 := kd_489
  have k490 := kd_490
  have k491 := kd_491
  have k492 := kd_492
  have k493 := kd_493
  have k494 := kd_494
  have k495 := kd_495
  have k496 := kd_496
  have k497 := kd_497
  have k498 := kd_498
  have k499 := kd_499
  have k500 := kd_500
  have k501 := kd_501
  have k502 := kd_502
  have k503 := kd_503
  have lo : ∀ i, i ≤ 4 → JJ Z (0, 0) (M) 5 [some (.ref ((zE Z).2.2 478)), some (.int (nI one)), some (.int (nI er)), some (.int (b2i (exB (64 * i) (fun c => L one c && C er c)))), some (.int (nI i))] [] := by
    refine jj_loop (4) ?_ ?_
    · refine jj_iload F dX9_meets_5 rfl ?_
      refine jj_iconst F (v := nI 4) dX9_meets_7 (by decide) ?_
      refine jj_icmp_ge F (tgt := 55) dX9_meets_8 (by decide) (fun _ => ?_) (fun h9 => absurd (nI_le (by omega) (by omega)) h9)
      refine jj_iload_n F dX9_meets_55 rfl ?_
      exact ret _ _ _ _ dX9_meets_56 (nar_z (b2i_01 _)) ⟨rfl, rfl⟩
    · intro i hi ih
      refine jj_iload F dX9_meets_5 rfl ?_
      refine jj_iconst F (v := nI 4) dX9_meets_7 (by decide) ?_
      refine jj_icmp_ge F (tgt := 55) dX9_meets_8 (by decide) (fun h9 => absurd h9 (nI_ge (by omega) (by omega))) (fun _ => ?_)
      refine jj_iload_n F dX9_meets_11 rfl ?_
      refine jj_if_ne F (tgt := 43) dX9_meets_12 (by decide) (fun h12 => ?_) (fun h12 => ?_)
      · refine jj_iconst F (v := nI 1) dX9_meets_43 (by decide) ?_
        refine jj_goto F (tgt := 48) dX9_meets_44 (by decide) ?_
        refine jj_istore_n F dX9_meets_48 (by rw [hnl]; decide) ?_
        dsimp only [lq_st, lq_clr, lq_no]
        refine jj_iinc F dX9_meets_49 rfl (by first | exact iinc1 _ | rfl) (by rw [hnl]; decide) ?_
        dsimp only [lq_st, lq_clr, lq_no]
        refine jj_goto F (tgt := 5) dX9_meets_52 (by decide) ?_
        refine jj_eqL ?_ ih
        first
        | (rw [b2i_n0] at h12; rw [ex_4 rfl (Or.inl h12)]; rfl)
        | (rw [b2i_0] at h12; rw [lw_is0] at h40; rw [ex_4f h12 h40]; rfl)
        | (rw [lw_is0] at h40; rw [ex_4 (b := exB (64 * i) (fun c => L one c && C er c)) rfl (Or.inr h40)]; rfl)
      · refine jj_aload_n F dX9_meets_15 rfl ?_
        refine jj_getr F g66 (by assumption) (by rfl) dX9_meets_16 ?_
        refine jj_iconst F (v := nI 4) dX9_meets_19 (by decide) ?_
        refine jj_iload_n F dX9_meets_20 rfl ?_
        refine jj_imul F dX9_meets_21 ?_
        rw [pk_mul]
        refine jj_iload F dX9_meets_22 rfl ?_
        refine jj_iadd F dX9_meets_24 ?_
        rw [nI_add]
        refine jj_lald F (by assumption) rfl (by omega) dX9_meets_25 ?_
        rw [hL, lws_w L (by omega)]
        refine jj_aload_n F dX9_meets_26 rfl ?_
        refine jj_getr F g35 (by assumption) (by rfl) dX9_meets_27 ?_
        refine jj_iconst F (v := nI 4) dX9_meets_30 (by decide) ?_
        refine jj_iload_n F dX9_meets_31 rfl ?_
        refine jj_imul F dX9_meets_32 ?_
        rw [pk_mul]
        refine jj_iload F dX9_meets_33 rfl ?_
        refine jj_iadd F dX9_meets_35 ?_
        rw [nI_add]
        refine jj_lald F (by assumption) rfl (by omega) dX9_meets_36 ?_
        rw [hC, lws_w C (by omega)]
        refine jj_land F dX9_meets_37 ?_
        rw [lw_and]
        refine jj_lconst F (v := lN 0) dX9_meets_38 (by decide) ?_
        refine jj_lcmp F dX9_meets_39 ?_
        refine jj_if_eq F (tgt := 47) dX9_meets_40 (by decide) (fun h40 => ?_) (fun h40 => ?_)
        · refine jj_iconst F (v := nI 0) dX9_meets_47 (by decide) ?_
          refine jj_istore_n F dX9_meets_48 (by rw [hnl]; decide) ?_
          dsimp only [lq_st, lq_clr, lq_no]
          refine jj_iinc F dX9_meets_49 rfl (by first | exact iinc1 _ | rfl) (by rw [hnl]; decide) ?_
          dsimp only [lq_st, lq_clr, lq_no]
          refine jj_goto F (tgt := 5) dX9_meets_52 (by decide) ?_
          refine jj_eqL ?_ ih
          first
          | (rw [b2i_n0] at h12; rw [ex_4 rfl (Or.inl h12)]; rfl)
          | (rw [b2i_0] at h12; rw [lw_is0] at h40; rw [ex_4f h12 h40]; rfl)
          | (rw [lw_is0] at h40; rw [ex_4 (b := exB (64 * i) (fun c => L one c && C er c)) rfl (Or.inr h40)]; rfl)
        · refine jj_iconst F (v := nI 1) dX9_meets_43 (by decide) ?_
          refine jj_goto F (tgt := 48) dX9_meets_44 (by decide) ?_
          refine jj_istore_n F dX9_meets_48 (by rw [hnl]; decide) ?_
          dsimp only [lq_st, lq_clr, lq_no]
          refine jj_iinc F dX9_meets_49 rfl (by first | exact iinc1 _ | rfl) (by rw [hnl]; decide) ?_
          dsimp only [lq_st, lq_clr, lq_no]
          refine jj_goto F (tgt := 5) dX9_meets_52 (by decide) ?_
          refine jj_eqL ?_ ih
          first
          | (rw [b2i_n0] at h12; rw [ex_4 rfl (Or.inl h12)]; rfl)
          | (rw [b2i_0] at h12; rw [lw_is0] at h40; rw [ex_4f h12 h40]; rfl)
          | (rw [lw_is0] at h40; rw [ex_4 (b := exB (64 * i) (fun c => L one c && C er c)) rfl (Or.inr h40)]; rfl)
  refine jj_iconst F (v := nI 0) dX9_meets_0 (by decide) ?_
  refine jj_istore_n F dX9_meets_1 (by rw [hnl]; decide) ?_
  dsimp only [lq_st, lq_clr, lq_no]
  refine jj_iconst F (v := nI 0) dX9_meets_2 (by decide) ?_
  refine jj_istore F dX9_meets_3 (by rw [hnl]; decide) ?_
  dsimp only [lq_st, lq_clr, lq_no]
  exact lo 0 (by omega)
set_option maxRecDepth 100000 in
set_option maxHeartbeats 1000000 in
theorem c_X9_isVanished {l : Launch} {E : Ee} {M : Mm} {k : Nat} {t : Int32} (hk : k < 60) : CtI l E yX9_isVanished (.code yX9_isVanished cX9_isVanished 3 (some .boolean) :: gl) ({ frames := 0, cells := 0, slots := 0, locals := 0 } : Room) M [.ref (E.2.2 478), .int (nI k), .int t] 0 0 (fun r M2 => r = b2i (vanI (M.1 483 k) (M.1 484 k) t) ∧ M2 = M) := by
  refine ctI_of (L0 := [some (.ref (E.2.2 478)), some (.int (nI k)), some (.int t)]) (by decide) rfl (Nat.le_of_ble_eq_true rfl) rfl ?_
  intro Z hl hE hnl F ret
  subst hE
  have in_X9 : ∀ w ∈ u_ws RX9 TX9 33, w ∈ (.code yX9_isVanished cX9_isVanished 3 (some .boolean) :: gl) := fun w h => List.mem_cons_of_mem _ (lay_X9 w h)
  have g22 : FG Z 22 9 7 := fg_mk F (C := RX9) (T := TX9) (N := 33) in_X9 rfl (by decide) rfl (List.mem_cons_of_mem _ fk_X9_22)
  have g25 : FG Z 25 9 8 := fg_mk F (C := RX9) (T := TX9) (N := 33) in_X9 rfl (by decide) rfl (List.mem_cons_of_mem _ fk_X9_25)
  have kM := kd_M
  have k479 := kd_479
  have k480 := kd_480
  have k481 := kd_481
  have k482 := kd_482
  have k483 := kd_483
  have k484 := kd_484
  have k485 := kd_485
  have k486 := kd_486
  have k487 := kd_487
  have k488 := kd_488
  have k489 := kd_489
  have k490 := kd_490
  have k491 := kd_491
  have k492 := kd_492
  have k493 := kd_493
  have k494 := kd_494
  have k495 := kd_495
  have k496 := kd_496
  have k497 := kd_497
  have k498 := kd_498
  have k499 := kd_499
  have k500 := kd_500
  have k501 := kd_501
  have k502 := kd_502
  have k503 := kd_503
  refine jj_aload_n F dX9_isVanished_0 rfl ?_
  refine jj_getr F g22 (by assumption) (by rfl) dX9_isVanished_1 ?_
  refine jj_iload_n F dX9_isVanished_4 rfl ?_
  refine jj_iald F (by assumption) rfl (by omega) dX9_isVanished_5 ?_
  refine jj_if_le F (tgt := 30) dX9_isVanished_6 (by decide) (fun h6 => ?_) (fun h6 => ?_)
  · refine jj_iconst F (v := nI 0) dX9_isVanished_30 (by decide) ?_
    refine ret _ _ _ _ dX9_isVanished_31 (nar_z (Or.inl rfl)) ⟨b2i_f ?_, rfl⟩
    first
    | (simp [vanI, i32_le_nlt h6]; done)
    | (simp [vanI, i32_lt_nle h23]; done)
  · refine jj_iload_n F dX9_isVanished_9 rfl ?_
    refine jj_aload_n F dX9_isVanished_10 rfl ?_
    refine jj_getr F g25 (by assumption) (by rfl) dX9_isVanished_11 ?_
    refine jj_iload_n F dX9_isVanished_14 rfl ?_
    refine jj_iald F (by assumption) rfl (by omega) dX9_isVanished_15 ?_
    refine jj_aload_n F dX9_isVanished_16 rfl ?_
    refine jj_getr F g22 (by assumption) (by rfl) dX9_isVanished_17 ?_
    refine jj_iload_n F dX9_isVanished_20 rfl ?_
    refine jj_iald F (by assumption) rfl (by omega) dX9_isVanished_21 ?_
    refine jj_iadd F dX9_isVanished_22 ?_
    refine jj_icmp_lt F (tgt := 30) dX9_isVanished_23 (by decide) (fun h23 => ?_) (fun h23 => ?_)
    · refine jj_iconst F (v := nI 0) dX9_isVanished_30 (by decide) ?_
      refine ret _ _ _ _ dX9_isVanished_31 (nar_z (Or.inl rfl)) ⟨b2i_f ?_, rfl⟩
      first
      | (simp [vanI, i32_le_nlt h6]; done)
      | (simp [vanI, i32_lt_nle h23]; done)
    · refine jj_iconst F (v := nI 1) dX9_isVanished_26 (by decide) ?_
      refine jj_goto F (tgt := 31) dX9_isVanished_27 (by decide) ?_
      refine ret _ _ _ _ dX9_isVanished_31 (nar_z (Or.inr rfl)) ⟨b2i_t ?_, rfl⟩
      simp [vanI, i32_nle h6, i32_nlt h23]
