/-! the reference's regions -/
theorem lw1_at (R : Nat → Bool) {c : Nat} : bl (lwOf R (c / 64)) (c % 64) = R c := by
  rw [bl_lw _ _ _ (by omega), show 64 * (c / 64) + c % 64 = c by omega]
theorem lw_put (R : Nat → Bool) (c : Nat) : vp_updL (lwOf R) (c / 64) (lwOf R (c / 64) ||| (lN 1 <<< ((nI (c % 64)).toInt64 &&& 63))) = lwOf (fun d => R d || d == c) := by
  funext w
  by_cases h : w = c / 64
  · subst h
    simp only [vp_updL, if_true]
    apply bl_ext
    intro i hi
    rw [bl_or, bl_lw _ _ _ hi, bl_lw _ _ _ hi, bl_shl (c % 64) (by omega) i hi]
    congr 1
    rw [Bool.eq_iff_iff]
    simp only [decide_eq_true_eq, beq_iff_eq]
    omega
  · simp only [vp_updL, if_neg h]
    refine lw_cong (fun x hx => ?_)
    rw [show (64 * w + x == c) = false by rw [beq_eq_false_iff_ne]; omega, Bool.or_false]
def inO (R : Nat → Bool) : Option Nat → Bool
  | none => false
  | some d => R d
theorem wi_t {x : Int32} (h : wiB x (nI 0) (nI 15) = true) : ∃ a, a < 16 ∧ x = nI a := by
  unfold wiB at h
  simp only [Bool.and_eq_true, decide_eq_true_eq] at h
  exact i32_ix (n := 16) (i32_le_nlt h.1) (by
    intro q
    have e1 := h.2
    rw [Int32.le_iff_toInt_le] at e1 q
    rw [nI_toInt (by omega)] at e1 q
    omega) (by omega)
theorem wi_f {x : Int32} (h : wiB x (nI 0) (nI 15) = false) : x < 0 ∨ nI 16 ≤ x := by
  unfold wiB at h
  rcases Bool.and_eq_false_iff.mp h with q | q
  · exact Or.inl (i32_nle (of_decide_eq_false q))
  · right
    have e1 := i32_nle (of_decide_eq_false q)
    rw [Int32.lt_iff_toInt_lt] at e1
    rw [Int32.le_iff_toInt_le]
    rw [nI_toInt (by omega)] at e1 ⊢
    omega
theorem cb_all : ∀ c, c < 256 → cellAt (nI (c % 16) + nI 1) (nI (c / 16) + nI 0) = (if c % 16 = 15 then none else some (c + 1)) ∧ cellAt (nI (c % 16) + -1) (nI (c / 16) + nI 0) = (if c % 16 = 0 then none else some (c - 1)) ∧ cellAt (nI (c % 16) + nI 0) (nI (c / 16) + nI 1) = (if c / 16 = 15 then none else some (c + 16)) ∧ cellAt (nI (c % 16) + nI 0) (nI (c / 16) + -1) = (if c / 16 = 0 then none else some (c - 16)) ∧ cellAt (nI (c % 16) + nI 1) (nI (c / 16) + nI 1) = (if c % 16 = 15 ∨ c / 16 = 15 then none else some (c + 17)) ∧ cellAt (nI (c % 16) + -1) (nI (c / 16) + nI 1) = (if c % 16 = 0 ∨ c / 16 = 15 then none else some (c + 15)) ∧ cellAt (nI (c % 16) + nI 1) (nI (c / 16) + -1) = (if c % 16 = 15 ∨ c / 16 = 0 then none else some (c - 15)) ∧ cellAt (nI (c % 16) + -1) (nI (c / 16) + -1) = (if c % 16 = 0 ∨ c / 16 = 0 then none else some (c - 17)) := by decide +kernel
def tch (g : Bool) (R : Nat → Bool) (c : Nat) : Bool := (nbN g c).any (inO R)
theorem tch_i {g : Bool} {R : Nat → Bool} {c : Nat} : tch g R c = true ↔ ∃ d, some d ∈ nbN g c ∧ R d = true := by
  unfold tch
  rw [List.any_eq_true]
  constructor
  · rintro ⟨o, h1, h2⟩
    cases o with
    | none => cases h2
    | some d => exact ⟨d, h1, h2⟩
  · rintro ⟨d, h1, h2⟩
    exact ⟨some d, h1, h2⟩
set_option maxRecDepth 100000 in
set_option maxHeartbeats 1000000 in
theorem c_X9_isInRegion {l : Launch} {E : Ee} {M : Mm} {c : Nat} {R : Nat → Bool} (hR : M.2 502 = lwOf R) (hc : c < 256) : CtI l E yX9_isInRegion (.code yX9_isInRegion cX9_isInRegion 2 (some .boolean) :: gl) ({ frames := 0, cells := 0, slots := 0, locals := 0 } : Room) M [.ref (E.2.2 478), .int (nI c)] 0 0 (fun r M2 => r = b2i (R c) ∧ M2 = M) := by
  refine ctI_of (L0 := [some (.ref (E.2.2 478)), some (.int (nI c))]) (by decide) rfl (Nat.le_of_ble_eq_true rfl) rfl ?_
  intro Z hl hE hnl F ret
  subst hE
  have in_X9 : ∀ w ∈ u_ws RX9 TX9 33, w ∈ (.code yX9_isInRegion cX9_isInRegion 2 (some .boolean) :: gl) := fun w h => List.mem_cons_of_mem _ (lay_X9 w h)
  have g81 : FG Z 81 9 30 := fg_mk F (C := RX9) (T := TX9) (N := 33) in_X9 rfl (by decide) rfl (List.mem_cons_of_mem _ fk_X9_81)
  have kM := kd_M
  have k479 := kd_479
  have k480 := kd_480
  have k481 := kd_481
  have k482 := kd_482
  have k483 := kd_483
  have k484 := kd_484
  have k485 := kd_485
  have k486 := kd_486
  have k487 := kd_487
  have k488 := kd_488
  have k489 := kd_489
  have k490 := kd_490
  have k491 := kd_491
  have k492 := kd_492
  have k493 := kd_493
  have k494 := kd_494
  have k495 := kd_495
  have k496 := kd_496
  have k497 := kd_497
  have k498 := kd_498
  have k499 := kd_499
  have k500 := kd_500
  have k501 := kd_501
  have k502 := kd_502
  have k503 := kd_503
  refine jj_aload_n F dX9_isInRegion_0 rfl ?_
  refine jj_getr F g81 (by assumption) (by rfl) dX9_isInRegion_1 ?_
  refine jj_iload_n F dX9_isInRegion_4 rfl ?_
  refine jj_bipush F (v := nI 64) dX9_isInRegion_5 (by decide) ?_
  refine jj_idiv F dX9_isInRegion_7 (by first | decide | assumption) ?_
  rw [show nI c / nI 64 = nI (c / 64) from pk_div (by omega) (by omega) (by omega)]
  refine jj_lald F (by assumption) rfl (by omega) dX9_isInRegion_8 ?_
  refine jj_iload_n F dX9_isInRegion_9 rfl ?_
  refine jj_bipush F (v := nI 64) dX9_isInRegion_10 (by decide) ?_
  refine jj_irem F dX9_isInRegion_12 (by first | decide | assumption) ?_
  rw [show nI c - nI c / nI 64 * nI 64 = nI (c % 64) from pk_rem (by omega) (by omega) (by omega)]
  refine jj_lushr F dX9_isInRegion_13 ?_
  refine jj_lconst F (v := lN 1) dX9_isInRegion_14 (by decide) ?_
  refine jj_land F dX9_isInRegion_15 ?_
  rw [hR, bl_bit _ (by omega), lw1_at]
  refine jj_lconst F (v := lN 1) dX9_isInRegion_16 (by decide) ?_
  refine jj_lcmp F dX9_isInRegion_17 ?_
  refine jj_if_ne F (tgt := 25) dX9_isInRegion_18 (by decide) (fun h18 => ?_) (fun h18 => ?_)
  · refine jj_iconst F (v := nI 0) dX9_isInRegion_25 (by decide) ?_
    refine ret _ _ _ _ dX9_isInRegion_26 (nar_z (Or.inl rfl)) ⟨b2i_f ?_, rfl⟩
    cases hb : R c with
    | false => rfl
    | true => exact absurd ((cmp_bit _).mpr hb) h18
  · refine jj_iconst F (v := nI 1) dX9_isInRegion_21 (by decide) ?_
    refine jj_goto F (tgt := 26) dX9_isInRegion_22 (by decide) ?_
    refine ret _ _ _ _ dX9_isInRegion_26 (nar_z (Or.inr rfl)) ⟨b2i_t ?_, rfl⟩
    exact (cmp_bit _).mp h18
set_option maxRecDepth 100000 in
set_option maxHeartbeats 1000000 in
theorem c_X9_put {l : Launch} {E : Ee} {M : Mm} {c : Nat} {R : Nat → Bool} (hR : M.2 502 = lwOf R) (hc : c < 256) : CtV l E yX9_put (.code yX9_put cX9_put 2 none :: gl) ({ frames := 0, cells := 0, slots := 0, locals := 0 } : Room) M [.ref (E.2.2 478), .int (nI c)] 0 0 (fun M2 => M2 = wL M 502 (lwOf (fun d => R d || d == c))) := by
  refine ctV_of (L0 := [some (.ref (E.2.2 478)), some (.int (nI c))]) (by decide) rfl (Nat.le_of_ble_eq_true rfl) rfl ?_
  intro Z hl hE hnl F ret
  subst hE
  have in_X9 : ∀ w ∈ u_ws RX9 TX9 33, w ∈ (.code yX9_put cX9_put 2 none :: gl) := fun w h => List.mem_cons_of_mem _ (lay_X9 w h)
  have g81 : FG Z 81 9 30 := fg_mk F (C := RX9) (T := TX9) (N := 33) in_X9 rfl (by decide) rfl (List.mem_cons_of_mem _ fk_X9_81)
  have kM := kd_M
  have k479 := kd_479
  have k480 := kd_480
  have k481 := kd_481
  have k482 := kd_482
  have k483 := kd_483
  have k484 := kd_484
  have k485 := kd_485
  have k486 := kd_486
  have k487 := kd_487
  have k488 := kd_488
  have k489 := kd_489
  have k490 := kd_490
  have k491 := kd_491
  have k492 := kd_492
  have k493 := kd_493
  have k494 := kd_494
  have k495 := kd_495
  have k496 := kd_496
  have k497 := kd_497
  have k498 := kd_498
  have k499 := kd_499
  have k500 := kd_500
  have k501 := kd_501
  have k502 := kd_502
  have k503 := kd_503
  refine jj_aload_n F dX9_put_0 rfl ?_
  refine jj_getr F g81 (by assumption) (by rfl) dX9_put_1 ?_
  refine jj_iload_n F dX9_put_4 rfl ?_
  refine jj_bipush F (v := nI 64) dX9_put_5 (by decide) ?_
  refine jj_idiv F dX9_put_7 (by first | decide | assumption) ?_
  rw [show nI c / nI 64 = nI (c / 64) from pk_div (by omega) (by omega) (by omega)]
  refine jj_dup2 F dX9_put_8 rfl rfl ?_
  refine jj_lald F (by assumption) rfl (by omega) dX9_put_9 ?_
  refine jj_lconst F (v := lN 1) dX9_put_10 (by decide) ?_
  refine jj_iload_n F dX9_put_11 rfl ?_
  refine jj_bipush F (v := nI 64) dX9_put_12 (by decide) ?_
  refine jj_irem F dX9_put_14 (by first | decide | assumption) ?_
  rw [show nI c - nI c / nI 64 * nI 64 = nI (c % 64) from pk_rem (by omega) (by omega) (by omega)]
  refine jj_lshl F dX9_put_15 ?_
  refine jj_lor F dX9_put_16 ?_
  refine jj_last F (by assumption) rfl (by omega) dX9_put_17 ?_
  refine ret _ _ _ dX9_put_18 ?_
  rw [hR, lw_put]
theorem ca_no {x y : Int32} (h : x < 0 ∨ nI 16 ≤ x ∨ (y < 0 ∨ nI 16 ≤ y)) : cellAt x y = none := by unfold cellAt; rw [if_pos h]
set_option maxRecDepth 100000 in
set_option maxHeartbeats 1000000 in
theorem c_X9_isBeside {l : Launch} {E : Ee} {M : Mm} {c : Nat} {dx dy : Int32} {R : Nat → Bool} (hR : M.2 502 = lwOf R) (hc : c < 256) : CtI l E yX9_isBeside (.code yX9_isBeside cX9_isBeside 6 (some .boolean) :: gl) ({ frames := 1, cells := 0, slots := 0, locals := 22 } : Room) M [.ref (E.2.2 478), .int (nI c), .int dx, .int dy] 0 0 (fun r M2 => r = b2i (inO R (cellAt (nI (c % 16) + dx) (nI (c / 16) + dy))) ∧ M2 = M) := by
  refine ctI_of (L0 := [some (.ref (E.2.2 478)), some (.int (nI c)), some (.int dx), some (.int dy), none, none]) (by decide) rfl (Nat.le_of_ble_eq_true rfl) rfl ?_
  intro Z hl hE hnl F ret
  subst hE
  have kM := kd_M
  have k479 := kd_479
  have k480 := kd_480
  have k481 := kd_481
  have k482 := kd_482
  have k483 := kd_483
  have k484 := kd_484
  have k485 := kd_485
  have k486 := kd_486
  have k487 := kd_487
  have k488 := kd_488
  have k489 := kd_489
  have k490 := kd_490
  have k491 := kd_491
  have k492 := kd_492
  have k493 := kd_493
  have k494 := kd_494
  have k495 := kd_495
  have k496 := kd_496
  have k497 := kd_497
  have k498 := kd_498
  have k499 := kd_499
  have k500 := kd_500
  have k501 := kd_501
  have k502 := kd_502
  have k503 := kd_503
  refine jj_iload_n F dX9_isBeside_0 rfl ?_
  refine jj_bipush F (v := nI 16) dX9_isBeside_1 (by decide) ?_
  refine jj_irem F dX9_isBeside_3 (by first | decide | assumption) ?_
  rw [show nI c - nI c / nI 16 * nI 16 = nI (c % 16) from pk_rem (by omega) (by omega) (by omega)]
  refine jj_iload_n F dX9_isBeside_4 rfl ?_
  refine jj_iadd F dX9_isBeside_5 ?_
  refine jj_istore F dX9_isBeside_6 (by rw [hnl]; decide) ?_
  dsimp only [lq_st, lq_clr, lq_no]
  refine jj_iload_n F dX9_isBeside_8 rfl ?_
  refine jj_bipush F (v := nI 16) dX9_isBeside_9 (by decide) ?_
  refine jj_idiv F dX9_isBeside_11 (by first | decide | assumption) ?_
  rw [show nI c / nI 16 = nI (c / 16) from pk_div (by omega) (by omega) (by omega)]
  refine jj_iload_n F dX9_isBeside_12 rfl ?_
  refine jj_iadd F dX9_isBeside_13 ?_
  refine jj_istore F dX9_isBeside_14 (by rw [hnl]; decide) ?_
  dsimp only [lq_st, lq_clr, lq_no]
  refine jj_iload F dX9_isBeside_16 rfl ?_
  refine jj_iconst F (v := nI 0) dX9_isBeside_18 (by decide) ?_
  refine jj_bipush F (v := nI 15) dX9_isBeside_19 (by decide) ?_
  refine jj_callSi (na := 3) F c_X9_within (gl_S mk_X9_91 vw_X9_within) rfl rfl rfl (by decide +kernel) ⟨Nat.le_of_ble_eq_true rfl, Nat.le_of_ble_eq_true rfl⟩ rfl rfl (Nat.le_of_ble_eq_true rfl) ⟨Nat.le_of_ble_eq_true rfl, Nat.le_of_ble_eq_true rfl⟩ dX9_isBeside_21 (fun r21 M21 hp21 => ?_)
  obtain ⟨rfl, rfl⟩ := symm2 hp21
  refine jj_if_eq F (tgt := 57) dX9_isBeside_24 (by decide) (fun h24 => ?_) (fun h24 => ?_)
  · refine jj_iconst F (v := nI 0) dX9_isBeside_57 (by decide) ?_
    refine ret _ _ _ _ dX9_isBeside_58 (nar_z (Or.inl rfl)) ⟨b2i_f ?_, rfl⟩
    first
    | (have z := wi_f (van_f h24); rw [ca_no (z.elim (fun y => Or.inl y) (fun y => Or.inr (Or.inl y)))]; rfl)
    | (have z := wi_f (van_f h35); rw [ca_no (Or.inr (Or.inr z))]; rfl)
    | (have z := van_f h50; rw [ex, ey, cellAt_in hax hay]; exact z)
  · refine jj_iload F dX9_isBeside_27 rfl ?_
    refine jj_iconst F (v := nI 0) dX9_isBeside_29 (by decide) ?_
    refine jj_bipush F (v := nI 15) dX9_isBeside_30 (by decide) ?_
    refine jj_callSi (na := 3) F c_X9_within (gl_S mk_X9_91 vw_X9_within) rfl rfl rfl (by decide +kernel) ⟨Nat.le_of_ble_eq_true rfl, Nat.le_of_ble_eq_true rfl⟩ rfl rfl (Nat.le_of_ble_eq_true rfl) ⟨Nat.le_of_ble_eq_true rfl, Nat.le_of_ble_eq_true rfl⟩ dX9_isBeside_32 (fun r32 M32 hp32 => ?_)
    obtain ⟨rfl, rfl⟩ := symm2 hp32
    refine jj_if_eq F (tgt := 57) dX9_isBeside_35 (by decide) (fun h35 => ?_) (fun h35 => ?_)
    · refine jj_iconst F (v := nI 0) dX9_isBeside_57 (by decide) ?_
      refine ret _ _ _ _ dX9_isBeside_58 (nar_z (Or.inl rfl)) ⟨b2i_f ?_, rfl⟩
      first
      | (have z := wi_f (van_f h24); rw [ca_no (z.elim (fun y => Or.inl y) (fun y => Or.inr (Or.inl y)))]; rfl)
      | (have z := wi_f (van_f h35); rw [ca_no (Or.inr (Or.inr z))]; rfl)
      | (have z := van_f h50; rw [ex, ey, cellAt_in hax hay]; exact z)
    · obtain ⟨ax, hax, ex⟩ := wi_t (van_t h24)
      obtain ⟨ay, hay, ey⟩ := wi_t (van_t h35)
      rw [ex, ey]
      refine jj_aload_n F dX9_isBeside_38 rfl ?_
      refine jj_bipush F (v := nI 16) dX9_isBeside_39 (by decide) ?_
      refine jj_iload F dX9_isBeside_41 rfl ?_
      refine jj_imul F dX9_isBeside_43 ?_
      refine jj_iload F dX9_isBeside_44 rfl ?_
      refine jj_iadd F dX9_isBeside_46 ?_
      rw [pk_mul, nI_add]
      refine jj_callVi (na := 1) F (c_X9_isInRegion hR (by omega)) (gl_V mk_X9_210 vw_X9_isInRegion) rfl rfl rfl (by decide +kernel) ⟨Nat.le_of_ble_eq_true rfl, Nat.le_of_ble_eq_true rfl⟩ (by assumption) rfl rfl rfl (Nat.le_of_ble_eq_true rfl) ⟨Nat.le_of_ble_eq_true rfl, Nat.le_of_ble_eq_true rfl⟩ dX9_isBeside_47 (fun r9 M9 hp9 => ?_)
      obtain ⟨rfl, rfl⟩ := symm2 hp9
      refine jj_if_eq F (tgt := 57) dX9_isBeside_50 (by decide) (fun h50 => ?_) (fun h50 => ?_)
      · refine jj_iconst F (v := nI 0) dX9_isBeside_57 (by decide) ?_
        refine ret _ _ _ _ dX9_isBeside_58 (nar_z (Or.inl rfl)) ⟨b2i_f ?_, rfl⟩
        first
        | (have z := wi_f (van_f h24); rw [ca_no (z.elim (fun y => Or.inl y) (fun y => Or.inr (Or.inl y)))]; rfl)
        | (have z := wi_f (van_f h35); rw [ca_no (Or.inr (Or.inr z))]; rfl)
        | (have z := van_f h50; rw [ex, ey, cellAt_in hax hay]; exact z)
      · refine jj_iconst F (v := nI 1) dX9_isBeside_53 (by decide) ?_
        refine jj_goto F (tgt := 58) dX9_isBeside_54 (by decide) ?_
        refine ret _ _ _ _ dX9_isBeside_58 (nar_z (Or.inr rfl)) ⟨b2i_t ?_, rfl⟩
        rw [ex, ey, cellAt_in hax hay]
        exact van_t h50
theorem or4_1 {a b c d : Bool} (h : a = true) : (a || b || c || d) = true := by simp [h]
theorem or4_2 {a b c d : Bool} (h : b = true) : (a || b || c || d) = true := by simp [h]
theorem or4_3 {a b c d : Bool} (h : c = true) : (a || b || c || d) = true := by simp [h]
theorem or4_4 {a b c d : Bool} (h : d = true) : (a || b || c || d) = true := by simp [h]
theorem or4_0 {a b c d : Bool} (h1 : a = false) (h2 : b = false) (h3 : c = false) (h4 : d = false) : (a || b || c || d) = false := by simp [h1, h2, h3, h4]
theorem tch_u {g : Bool} {R : Nat → Bool} {c : Nat} : tch g R c = ((inO R (if c % 16 = 15 then none else some (c + 1)) || inO R (if c % 16 = 0 then none else some (c - 1)) || inO R (if c / 16 = 15 then none else some (c + 16)) || inO R (if c / 16 = 0 then none else some (c - 16))) || (g && (inO R (if c % 16 = 15 ∨ c / 16 = 15 then none else some (c + 17)) || inO R (if c % 16 = 0 ∨ c / 16 = 15 then none else some (c + 15)) || inO R (if c % 16 = 15 ∨ c / 16 = 0 then none else some (c - 15)) || inO R (if c % 16 = 0 ∨ c / 16 = 0 then none else some (c - 17))))) := by
  unfold tch nbN
  rw [List.any_append]
  cases g
  · simp only [List.any_cons, List.any_nil, Bool.false_eq_true, if_false, Bool.or_false, Bool.false_and]
    generalize inO R (if c % 16 = 15 then none else some (c + 1)) = a1
    generalize inO R (if c % 16 = 0 then none else some (c - 1)) = a2
    generalize inO R (if c / 16 = 15 then none else some (c + 16)) = a3
    generalize inO R (if c / 16 = 0 then none else some (c - 16)) = a4
    revert a1 a2 a3 a4; decide
  · simp only [List.any_cons, List.any_nil, if_true, Bool.or_false, Bool.true_and]
    generalize inO R (if c % 16 = 15 then none else some (c + 1)) = a1
    generalize inO R (if c % 16 = 0 then none else some (c - 1)) = a2
    generalize inO R (if c / 16 = 15 then none else some (c + 16)) = a3
    generalize inO R (if c / 16 = 0 then none else some (c - 16)) = a4
    generalize inO R (if c % 16 = 15 ∨ c / 16 = 15 then none else some (c + 17)) = a5
    generalize inO R (if c % 16 = 0 ∨ c / 16 = 15 then none else some (c + 15)) = a6
    generalize inO R (if c % 16 = 15 ∨ c / 16 = 0 then none else some (c - 15)) = a7
    generalize inO R (if c % 16 = 0 ∨ c / 16 = 0 then none else some (c - 17)) = a8
    revert a1 a2 a3 a4 a5 a6 a7 a8; decide
theorem tch_a {g : Bool} {R : Nat → Bool} {c : Nat} (h : (inO R (if c % 16 = 15 then none else some (c + 1)) || inO R (if c % 16 = 0 then none else some (c - 1)) || inO R (if c / 16 = 15 then none else some (c + 16)) || inO R (if c / 16 = 0 then none else some (c - 16))) = true) : tch g R c = true := by rw [tch_u, h]; rfl
theorem tch_b {g : Bool} {R : Nat → Bool} {c : Nat} (h : g = true) (h2 : inO R (if c % 16 = 15 ∨ c / 16 = 15 then none else some (c + 17)) = true ∨ inO R (if c % 16 = 0 ∨ c / 16 = 15 then none else some (c + 15)) = true ∨ inO R (if c % 16 = 15 ∨ c / 16 = 0 then none else some (c - 15)) = true ∨ inO R (if c % 16 = 0 ∨ c / 16 = 0 then none else some (c - 17)) = true) : tch g R c = true := by
  rw [tch_u, h]
  rcases h2 with q | q | q | q <;> rw [q] <;> simp
theorem tch_c {g : Bool} {R : Nat → Bool} {c : Nat} (h : (inO R (if c % 16 = 15 then none else some (c + 1)) || inO R (if c % 16 = 0 then none else some (c - 1)) || inO R (if c / 16 = 15 then none else some (c + 16)) || inO R (if c / 16 = 0 then none else some (c - 16))) = false) (h2 : g = false) : tch g R c = false := by rw [tch_u, h, h2]; rfl
theorem tch_d {g : Bool} {R : Nat → Bool} {c : Nat} (h : (inO R (if c % 16 = 15 then none else some (c + 1)) || inO R (if c % 16 = 0 then none else some (c - 1)) || inO R (if c / 16 = 15 then none else some (c + 16)) || inO R (if c / 16 = 0 then none else some (c - 16))) = false) (h1 : inO R (if c % 16 = 15 ∨ c / 16 = 15 then none else some (c + 17)) = false) (h2 : inO R (if c % 16 = 0 ∨ c / 16 = 15 then none else some (c + 15)) = false) (h3 : inO R (if c % 16 = 15 ∨ c / 16 = 0 then none else some (c - 15)) = false) (h4 : inO R (if c % 16 = 0 ∨ c / 16 = 0 then none else some (c - 17)) = false) : tch g R c = false := by rw [tch_u, h, h1, h2, h3, h4]; simp
set_option maxRecDepth 100000 in
set_option maxHeartbeats 1000000 in
theorem c_X9_isTouched {l : Launch} {E : Ee} {M : Mm} {c : Nat} {g : Bool} {R : Nat → Bool} (hR : M.2 502 = lwOf R) (hc : c < 256) : CtI l E yX9_isTouched (.code yX9_isTouched cX9_isTouched 4 (some .boolean) :: gl) ({ frames := 2, cells := 0, slots := 0, locals := 47 } : Room) M [.ref (E.2.2 478), .int (nI c), .int (b2i g)] 0 0 (fun r M2 => r = b2i (tch g R c) ∧ M2 = M) := by
  refine ctI_of (L0 := [some (.ref (E.2.2 478)), some (.int (nI c)), some (.int (b2i g)), none]) (by decide) rfl (Nat.le_of_ble_eq_true rfl) rfl ?_
  intro Z hl hE hnl F ret
  subst hE
  have kM := kd_M
  have k479 := kd_479
  have k480 := kd_480
  have k481 := kd_481
  have k482 := kd_482
  have k483 := kd_483
  have k484 := kd_484
  have k485 := kd_485
  have k486 := kd_486
  have k487 := kd_487
  have k488 := kd_488
  have k489 := kd_489
  have k490 := kd_490
  have k491 := kd_491
  have k492 := kd_492
  have k493 := kd_493
  have k494 := kd_494
  have k495 := kd_495
  have k496 := kd_496
  have k497 := kd_497
  have k498 := kd_498
  have k499 := kd_499
  have k500 := kd_500
  have k501 := kd_501
  have k502 := kd_502
  have k503 := kd_503
  obtain ⟨e1, e2, e3, e4, e5, e6, e7, e8⟩ := cb_all c hc
  have j45 : JJ Z (0, 0) M 45 [some (.ref ((zE Z).2.2 478)), some (.int (nI c)), some (.int (b2i g)), none] [.int (b2i (inO R (if c % 16 = 15 then none else some (c + 1)) || inO R (if c % 16 = 0 then none else some (c - 1)) || inO R (if c / 16 = 15 then none else some (c + 16)) || inO R (if c / 16 = 0 then none else some (c - 16))))] := by
    refine jj_istore_n F dX9_isTouched_45 (by rw [hnl]; decide) ?_
    dsimp only [lq_st, lq_clr, lq_no]
    refine jj_iload_n F dX9_isTouched_46 rfl ?_
    refine jj_if_ne F (tgt := 94) dX9_isTouched_47 (by decide) (fun h47 => ?_) (fun h47 => ?_)
    · refine jj_iconst F (v := nI 1) dX9_isTouched_94 (by decide) ?_
      refine jj_goto F (tgt := 99) dX9_isTouched_95 (by decide) ?_
      refine ret _ _ _ _ dX9_isTouched_99 (nar_z (Or.inr rfl)) ⟨b2i_t ?_, rfl⟩
      first
      | exact tch_a (van_t h47)
      | exact tch_b (van_t h51) (Or.inl (van_t h61))
      | exact tch_b (van_t h51) (Or.inr (Or.inl (van_t h71)))
      | exact tch_b (van_t h51) (Or.inr (Or.inr (Or.inl (van_t h81))))
      | exact tch_b (van_t h51) (Or.inr (Or.inr (Or.inr (van_t h91))))
    · refine jj_iload_n F dX9_isTouched_50 rfl ?_
      refine jj_if_eq F (tgt := 98) dX9_isTouched_51 (by decide) (fun h51 => ?_) (fun h51 => ?_)
      · refine jj_iconst F (v := nI 0) dX9_isTouched_98 (by decide) ?_
        refine ret _ _ _ _ dX9_isTouched_99 (nar_z (Or.inl rfl)) ⟨b2i_f ?_, rfl⟩
        first
        | exact tch_c (van_f h47) (van_f h51)
        | exact tch_d (van_f h47) (van_f h61) (van_f h71) (van_f h81) (van_f h91)
      · refine jj_aload_n F dX9_isTouched_54 rfl ?_
        refine jj_iload_n F dX9_isTouched_55 rfl ?_
        refine jj_iconst F (v := nI 1) dX9_isTouched_56 (by decide) ?_
        refine jj_iconst F (v := nI 1) dX9_isTouched_57 (by decide) ?_
        refine jj_callVi (na := 3) F (c_X9_isBeside (dx := nI 1) (dy := nI 1) hR hc) (gl_V mk_X9_213 vw_X9_isBeside) rfl rfl rfl (by decide +kernel) ⟨Nat.le_of_ble_eq_true rfl, Nat.le_of_ble_eq_true rfl⟩ kM rfl rfl rfl (Nat.le_of_ble_eq_true rfl) ⟨Nat.le_of_ble_eq_true rfl, Nat.le_of_ble_eq_true rfl⟩ dX9_isTouched_58 (fun r9 M9 hp9 => ?_)
        obtain ⟨rfl, rfl⟩ := symm2 hp9
        rw [e5]
        refine jj_if_ne F (tgt := 94) dX9_isTouched_61 (by decide) (fun h61 => ?_) (fun h61 => ?_)
        · refine jj_iconst F (v := nI 1) dX9_isTouched_94 (by decide) ?_
          refine jj_goto F (tgt := 99) dX9_isTouched_95 (by decide) ?_
          refine ret _ _ _ _ dX9_isTouched_99 (nar_z (Or.inr rfl)) ⟨b2i_t ?_, rfl⟩
          first
          | exact tch_a (van_t h47)
          | exact tch_b (van_t h51) (Or.inl (van_t h61))
          | exact tch_b (van_t h51) (Or.inr (Or.inl (van_t h71)))
          | exact tch_b (van_t h51) (Or.inr (Or.inr (Or.inl (van_t h81))))
          | exact tch_b (van_t h51) (Or.inr (Or.inr (Or.inr (van_t h91))))
        · refine jj_aload_n F dX9_isTouched_64 rfl ?_
          refine jj_iload_n F dX9_isTouched_65 rfl ?_
          refine jj_iconst F (v := -1) dX9_isTouched_66 (by decide) ?_
          refine jj_iconst F (v := nI 1) dX9_isTouched_67 (by decide) ?_
          refine jj_callVi (na := 3) F (c_X9_isBeside (dx := -1) (dy := nI 1) hR hc) (gl_V mk_X9_213 vw_X9_isBeside) rfl rfl rfl (by decide +kernel) ⟨Nat.le_of_ble_eq_true rfl, Nat.le_of_ble_eq_true rfl⟩ kM rfl rfl rfl (Nat.le_of_ble_eq_true rfl) ⟨Nat.le_of_ble_eq_true rfl, Nat.le_of_ble_eq_true rfl⟩ dX9_isTouched_68 (fun r9 M9 hp9 => ?_)
          obtain ⟨rfl, rfl⟩ := symm2 hp9
          rw [e6]
          refine jj_if_ne F (tgt := 94) dX9_isTouched_71 (by decide) (fun h71 => ?_) (fun h71 => ?_)
          · refine jj_iconst F (v := nI 1) dX9_isTouched_94 (by decide) ?_
            refine jj_goto F (tgt := 99) dX9_isTouched_95 (by decide) ?_
            refine ret _ _ _ _ dX9_isTouched_99 (nar_z (Or.inr rfl)) ⟨b2i_t ?_, rfl⟩
            first
            | exact tch_a (van_t h47)
            | exact tch_b (van_t h51) (Or.inl (van_t h61))
            | exact tch_b (van_t h51) (Or.inr (Or.inl (van_t h71)))
            | exact tch_b (van_t h51) (Or.inr (Or.inr (Or.inl (van_t h81))))
            | exact tch_b (van_t h51) (Or.inr (Or.inr (Or.inr (van_t h91))))
          · refine jj_aload_n F dX9_isTouched_74 rfl ?_
            refine jj_iload_n F dX9_isTouched_75 rfl ?_
            refine jj_iconst F (v := nI 1) dX9_isTouched_76 (by decide) ?_
            refine jj_iconst F (v := -1) dX9_isTouched_77 (by decide) ?_
            refine jj_callVi (na := 3) F (c_X9_isBeside (dx := nI 1) (dy := -1) hR hc) (gl_V mk_X9_213 vw_X9_isBeside) rfl rfl rfl (by decide +kernel) ⟨Nat.le_of_ble_eq_true rfl, Nat.le_of_ble_eq_true rfl⟩ kM rfl rfl rfl (Nat.le_of_ble_eq_true rfl) ⟨Nat.le_of_ble_eq_true rfl, Nat.le_of_ble_eq_true rfl⟩ dX9_isTouched_78 (fun r9 M9 hp9 => ?_)
            obtain ⟨rfl, rfl⟩ := symm2 hp9
            rw [e7]
            refine jj_if_ne F (tgt := 94) dX9_isTouched_81 (by decide) (fun h81 => ?_) (fun h81 => ?_)
            · refine jj_iconst F (v := nI 1) dX9_isTouched_94 (by decide) ?_
              refine jj_goto F (tgt := 99) dX9_isTouched_95 (by decide) ?_
              refine ret _ _ _ _ dX9_isTouched_99 (nar_z (Or.inr rfl)) ⟨b2i_t ?_, rfl⟩
              first
              | exact tch_a (van_t h47)
              | exact tch_b (van_t h51) (Or.inl (van_t h61))
              | exact tch_b (van_t h51) (Or.inr (Or.inl (van_t h71)))
              | exact tch_b (van_t h51) (Or.inr (Or.inr (Or.inl (van_t h81))))
              | exact tch_b (van_t h51) (Or.inr (Or.inr (Or.inr (van_t h91))))
            · refine jj_aload_n F dX9_isTouched_84 rfl ?_
              refine jj_iload_n F dX9_isTouched_85 rfl ?_
              refine jj_iconst F (v := -1) dX9_isTouched_86 (by decide) ?_
              refine jj_iconst F (v := -1) dX9_isTouched_87 (by decide) ?_
              refine jj_callVi (na := 3) F (c_X9_isBeside (dx := -1) (dy := -1) hR hc) (gl_V mk_X9_213 vw_X9_isBeside) rfl rfl rfl (by decide +kernel) ⟨Nat.le_of_ble_eq_true rfl, Nat.le_of_ble_eq_true rfl⟩ kM rfl rfl rfl (Nat.le_of_ble_eq_true rfl) ⟨Nat.le_of_ble_eq_true rfl, Nat.le_of_ble_eq_true rfl⟩ dX9_isTouched_88 (fun r9 M9 hp9 => ?_)
              obtain ⟨rfl, rfl⟩ := symm2 hp9
              rw [e8]
              refine jj_if_eq F (tgt := 98) dX9_isTouched_91 (by decide) (fun h91 => ?_) (fun h91 => ?_)
              · refine jj_iconst F (v := nI 0) dX9_isTouched_98 (by decide) ?_
                refine ret _ _ _ _ dX9_isTouched_99 (nar_z (Or.inl rfl)) ⟨b2i_f ?_, rfl⟩
                first
                | exact tch_c (van_f h47) (van_f h51)
                | exact tch_d (van_f h47) (van_f h61) (van_f h71) (van_f h81) (van_f h91)
              · refine jj_iconst F (v := nI 1) dX9_isTouched_94 (by decide) ?_
                refine jj_goto F (tgt := 99) dX9_isTouched_95 (by decide) ?_
                refine ret _ _ _ _ dX9_isTouched_99 (nar_z (Or.inr rfl)) ⟨b2i_t ?_, rfl⟩
                first
                | exact tch_a (van_t h47)
                | exact tch_b (van_t h51) (Or.inl (van_t h61))
                | exact tch_b (van_t h51) (Or.inr (Or.inl (van_t h71)))
                | exact tch_b (van_t h51) (Or.inr (Or.inr (Or.inl (van_t h81))))
                | exact tch_b (van_t h51) (Or.inr (Or.inr (Or.inr (van_t h91))))
  refine jj_aload_n F dX9_isTouched_0 rfl ?_
  refine jj_iload_n F dX9_isTouched_1 rfl ?_
  refine jj_iconst F (v := nI 1) dX9_isTouched_2 (by decide) ?_
  refine jj_iconst F (v := nI 0) dX9_isTouched_3 (by decide) ?_
  refine jj_callVi (na := 3) F (c_X9_isBeside (dx := nI 1) (dy := nI 0) hR hc) (gl_V mk_X9_213 vw_X9_isBeside) rfl rfl rfl (by decide +kernel) ⟨Nat.le_of_ble_eq_true rfl, Nat.le_of_ble_eq_true rfl⟩ kM rfl rfl rfl (Nat.le_of_ble_eq_true rfl) ⟨Nat.le_of_ble_eq_true rfl, Nat.le_of_ble_eq_true rfl⟩ dX9_isTouched_4 (fun r9 M9 hp9 => ?_)
  obtain ⟨rfl, rfl⟩ := symm2 hp9
  rw [e1]
  refine jj_if_ne F (tgt := 40) dX9_isTouched_7 (by decide) (fun h7 => ?_) (fun h7 => ?_)
  · refine jj_iconst F (v := nI 1) dX9_isTouched_40 (by decide) ?_
    refine jj_goto F (tgt := 45) dX9_isTouched_41 (by decide) ?_
    refine jj_topi ?_ j45
    first
    | exact b2i_t (or4_1 (van_t h7))
    | exact b2i_t (or4_2 (van_t h17))
    | exact b2i_t (or4_3 (van_t h27))
    | exact b2i_t (or4_4 (van_t h37))
    | exact b2i_f (or4_0 (van_f h7) (van_f h17) (van_f h27) (van_f h37))
  · refine jj_aload_n F dX9_isTouched_10 rfl ?_
    refine jj_iload_n F dX9_isTouched_11 rfl ?_
    refine jj_iconst F (v := -1) dX9_isTouched_12 (by decide) ?_
    refine jj_iconst F (v := nI 0) dX9_isTouched_13 (by decide) ?_
    refine jj_callVi (na := 3) F (c_X9_isBeside (dx := -1) (dy := nI 0) hR hc) (gl_V mk_X9_213 vw_X9_isBeside) rfl rfl rfl (by decide +kernel) ⟨Nat.le_of_ble_eq_true rfl, Nat.le_of_ble_eq_true rfl⟩ kM rfl rfl rfl (Nat.le_of_ble_eq_true rfl) ⟨Nat.le_of_ble_eq_true rfl, Nat.le_of_ble_eq_true rfl⟩ dX9_isTouched_14 (fun r9 M9 hp9 => ?_)
    obtain ⟨rfl, rfl⟩ := symm2 hp9
    rw [e2]
    refine jj_if_ne F (tgt := 40) dX9_isTouched_17 (by decide) (fun h17 => ?_) (fun h17 => ?_)
    · refine jj_iconst F (v := nI 1) dX9_isTouched_40 (by decide) ?_
      refine jj_goto F (tgt := 45) dX9_isTouched_41 (by decide) ?_
      refine jj_topi ?_ j45
      first
      | exact b2i_t (or4_1 (van_t h7))
      | exact b2i_t (or4_2 (van_t h17))
      | exact b2i_t (or4_3 (van_t h27))
      | exact b2i_t (or4_4 (van_t h37))
      | exact b2i_f (or4_0 (van_f h7) (van_f h17) (van_f h27) (van_f h37))
    · refine jj_aload_n F dX9_isTouched_20 rfl ?_
      refine jj_iload_n F dX9_isTouched_21 rfl ?_
      refine jj_iconst F (v := nI 0) dX9_isTouched_22 (by decide) ?_
      refine jj_iconst F (v := nI 1) dX9_isTouched_23 (by decide) ?_
      refine jj_callVi (na := 3) F (c_X9_isBeside (dx := nI 0) (dy := nI 1) hR hc) (gl_V mk_X9_213 vw_X9_isBeside) rfl rfl rfl (by decide +kernel) ⟨Nat.le_of_ble_eq_true rfl, Nat.le_of_ble_eq_true rfl⟩ kM rfl rfl rfl (Nat.le_of_ble_eq_true rfl) ⟨Nat.le_of_ble_eq_true rfl, Nat.le_of_ble_eq_true rfl⟩ dX9_isTouched_24 (fun r9 M9 hp9 => ?_)
      obtain ⟨rfl, rfl⟩ := symm2 hp9
      rw [e3]
      refine jj_if_ne F (tgt := 40) dX9_isTouched_27 (by decide) (fun h27 => ?_) (fun h27 => ?_)
      · refine jj_iconst F (v := nI 1) dX9_isTouched_40 (by decide) ?_
        refine jj_goto F (tgt := 45) dX9_isTouched_41 (by decide) ?_
        refine jj_topi ?_ j45
        first
        | exact b2i_t (or4_1 (van_t h7))
        | exact b2i_t (or4_2 (van_t h17))
        | exact b2i_t (or4_3 (van_t h27))
        | exact b2i_t (or4_4 (van_t h37))
        | exact b2i_f (or4_0 (van_f h7) (van_f h17) (van_f h27) (van_f h37))
      · refine jj_aload_n F dX9_isTouched_30 rfl ?_
        refine jj_iload_n F dX9_isTouched_31 rfl ?_
        refine jj_iconst F (v := nI 0) dX9_isTouched_32 (by decide) ?_
        refine jj_iconst F (v := -1) dX9_isTouched_33 (by decide) ?_
        refine jj_callVi (na := 3) F (c_X9_isBeside (dx := nI 0) (dy := -1) hR hc) (gl_V mk_X9_213 vw_X9_isBeside) rfl rfl rfl (by decide +kernel) ⟨Nat.le_of_ble_eq_true rfl, Nat.le_of_ble_eq_true rfl⟩ kM rfl rfl rfl (Nat.le_of_ble_eq_true rfl) ⟨Nat.le_of_ble_eq_true rfl, Nat.le_of_ble_eq_true rfl⟩ dX9_isTouched_34 (fun r9 M9 hp9 => ?_)
        obtain ⟨rfl, rfl⟩ := symm2 hp9
        rw [e4]
        refine jj_if_eq F (tgt := 44) dX9_isTouched_37 (by decide) (fun h37 => ?_) (fun h37 => ?_)
        · refine jj_iconst F (v := nI 0) dX9_isTouched_44 (by decide) ?_
          refine jj_topi ?_ j45
          first
          | exact b2i_t (or4_1 (van_t h7))
          | exact b2i_t (or4_2 (van_t h17))
          | exact b2i_t (or4_3 (van_t h27))
          | exact b2i_t (or4_4 (van_t h37))
          | exact b2i_f (or4_0 (van_f h7) (van_f h17) (van_f h27) (van_f h37))
        · refine jj_iconst F (v := nI 1) dX9_isTouched_40 (by decide) ?_
          refine jj_goto F (tgt := 45) dX9_isTouched_41 (by decide) ?_
          refine jj_topi ?_ j45
          first
          | exact b2i_t (or4_1 (van_t h7))
          | exact b2i_t (or4_2 (van_t h17))
          | exact b2i_t (or4_3 (van_t h27))
          | exact b2i_t (or4_4 (van_t h37))
          | exact b2i_f (or4_0 (van_f h7) (van_f h17) (van_f h27) (van_f h37))
