/-- the latest active operation of a user, and the one undone last -/
def laA (a : Ab) (u : Int32) : Nat → Option Nat
  | 0 => none
  | i + 1 => if a_op a i 1 = u ∧ a_ac a i = true then some i else laA a u i
def rdG (un : Nat → Nat) (i : Nat) : Option Nat → Bool
  | none => true
  | some j => decide (un j < un i)
def rdA (a : Ab) (u : Int32) : Nat → Option Nat
  | 0 => none
  | i + 1 => if a_op a i 1 = u ∧ 0 < a_un a i ∧ rdG (a_un a) i (rdA a u i) = true then some i else rdA a u i
theorem laA_s {a : Ab} {u : Int32} {i : Nat} : laA a u (i + 1) = if a_op a i 1 = u ∧ a_ac a i = true then some i else laA a u i := rfl
theorem rdA_s {a : Ab} {u : Int32} {i : Nat} : rdA a u (i + 1) = if a_op a i 1 = u ∧ 0 < a_un a i ∧ rdG (a_un a) i (rdA a u i) = true then some i else rdA a u i := rfl
theorem laA_lt {a : Ab} {u : Int32} : ∀ {i j : Nat}, laA a u i = some j → j < i ∧ a_op a j 1 = u ∧ a_ac a j = true
  | 0, _, h => by cases h
  | i + 1, j, h => by
    rw [laA_s] at h
    split at h
    · rename_i q; cases h; exact ⟨by omega, q⟩
    · have := laA_lt h; exact ⟨by omega, this.2⟩
theorem rdA_lt {a : Ab} {u : Int32} : ∀ {i j : Nat}, rdA a u i = some j → j < i ∧ 0 < a_un a j ∧ a_op a j 1 = u
  | 0, _, h => by cases h
  | i + 1, j, h => by
    rw [rdA_s] at h
    split at h
    · rename_i q; cases h; exact ⟨by omega, q.2.1, q.1⟩
    · have := rdA_lt h; exact ⟨by omega, this.2⟩
theorem nI_m (i : Nat) : nI i + Int32.ofInt (-1) = nI i - nI 1 := by rw [Int32.sub_eq_add_neg, show Int32.ofInt (-1) = -(nI 1) by decide]
set_option maxRecDepth 100000 in
set_option maxHeartbeats 1000000 in
theorem c_X9_latestOf {l : Launch} {E : Ee} {M : Mm} {a : Ab} {W : Nat} (hM : RelM M a W) {x : Int32} : CtI l E yX9_latestOf (.code yX9_latestOf cX9_latestOf 3 (some .int) :: gl) ({ frames := 0, cells := 0, slots := 0, locals := 0 } : Room) M [.ref (E.2.2 478), .int x] 0 0 (fun r M2 => r = numI (laA a x (a_n a)) ∧ M2 = M) := by
  refine ctI_of (L0 := [some (.ref (E.2.2 478)), some (.int x), none]) (by decide) rfl (Nat.le_of_ble_eq_true rfl) rfl ?_
  intro Z hl hE hnl F ret
  subst hE
  have in_X9 : ∀ w ∈ u_ws RX9 TX9 33, w ∈ (.code yX9_latestOf cX9_latestOf 3 (some .int) :: gl) := fun w h => List.mem_cons_of_mem _ (lay_X9 w h)
  have g13 : FG Z 13 9 4 := fg_mk F (C := RX9) (T := TX9) (N := 33) in_X9 rfl (by decide) rfl (List.mem_cons_of_mem _ fk_X9_13)
  have g28 : FG Z 28 9 9 := fg_mk F (C := RX9) (T := TX9) (N := 33) in_X9 rfl (by decide) rfl (List.mem_cons_of_mem _ fk_X9_28)
  have g95 : FG Z 95 9 2 := fg_mk F (C := RX9) (T := TX9) (N := 33) in_X9 rfl (by decide) rfl (List.mem_cons_of_mem _ fk_X9_95)
  obtain ⟨⟨h60, ht, htk, hn, hop, hac, hun, hopk, ⟨u0, hu1, hu2, hu3⟩, C, hC, hCa⟩, ⟨hlk, hll, hlz⟩, hK, ⟨hln, hl40, htx⟩, L0, hL0⟩ := id hM
  have kM := kd_M
  have k479 := kd_479
  have k480 := kd_480
  have k481 := kd_481
  have k482 := kd_482
  have k483 := kd_483
  have k484 := kd_484
  have k485 := kd_485
  have k486 := kd_486
  have k487 := kd_487
  have k488 := kd_488
  have k489 := kd_489
  have k490 := kd_490
  have k491 := kd_491
  have k492 := kd_492
  have k493 := kd_493
  have k494 := kd_494
  have k495 := kd_495
  have k496 := kd_496
  have k497 := kd_497
  have k498 := kd_498
  have k499 := kd_499
  have k500 := kd_500
  have k501 := kd_501
  have k502 := kd_502
  have k503 := kd_503
  have lo : ∀ i, i ≤ a_n a → laA a x (a_n a) = laA a x i → JJ Z (0, 0) M 7 [some (.ref ((zE Z).2.2 478)), some (.int x), some (.int (nI i - nI 1))] [] := by
    intro i
    induction i with
    | zero =>
      intro hi he
      refine jj_iload_n F dX9_latestOf_7 rfl ?_
      refine jj_if_lt F (tgt := 36) dX9_latestOf_8 (by decide) (fun _ => ?_) (fun h9 => absurd (by decide) h9)
      refine jj_iload_n F dX9_latestOf_36 rfl ?_
      refine ret _ _ _ _ dX9_latestOf_37 (by first | rfl | exact nar_z (by first | exact Or.inl rfl | exact Or.inr rfl | exact b2i_01 _ | assumption)) ?_
      rw [he]
      exact ⟨rfl, rfl⟩
    | succ i ih =>
      intro hi he
      rw [nI_pred1]
      have e1 : M.1 480 i = a_op a i 1 := hop i (by omega) 1 (by omega)
      have e2 := hac i (by omega)
      refine jj_iload_n F dX9_latestOf_7 rfl ?_
      refine jj_if_lt F (tgt := 36) dX9_latestOf_8 (by decide) (fun h9 => absurd h9 (nI_nlt (b := 0) (Nat.zero_le _) (by omega))) (fun _ => ?_)
      refine jj_aload_n F dX9_latestOf_11 rfl ?_
      refine jj_getr F g13 (by assumption) (by rfl) dX9_latestOf_12 ?_
      refine jj_iload_n F dX9_latestOf_15 rfl ?_
      refine jj_iald F (by assumption) rfl (by omega) dX9_latestOf_16 ?_
      rw [e1]
      refine jj_iload_n F dX9_latestOf_17 rfl ?_
      refine jj_icmp_ne F (tgt := 30) dX9_latestOf_18 (by decide) (fun h18 => ?_) (fun h18 => ?_)
      · refine jj_iinc F dX9_latestOf_30 rfl (nI_m i) (by rw [hnl]; decide) ?_
        dsimp only [lq_st, lq_clr, lq_no]
        refine jj_goto F (tgt := 7) dX9_latestOf_33 (by decide) ?_
        refine ih (by omega) ?_
        rw [he, laA_s]
        first
        | (have z : ¬ a_op a i 1 = x := h18; rw [if_neg (fun q => z q.1)]; done)
        | (have z := van_f h27; rw [if_neg (fun q => by rw [z] at q; cases q.2)]; done)
      · refine jj_aload_n F dX9_latestOf_21 rfl ?_
        refine jj_getr F g28 (by assumption) (by rfl) dX9_latestOf_22 ?_
        refine jj_iload_n F dX9_latestOf_25 rfl ?_
        refine jj_zald F (by assumption) rfl (by omega) dX9_latestOf_26 ?_
        rw [e2]
        refine jj_if_ne F (tgt := 36) dX9_latestOf_27 (by decide) (fun h27 => ?_) (fun h27 => ?_)
        · refine jj_iload_n F dX9_latestOf_36 rfl ?_
          refine ret _ _ _ _ dX9_latestOf_37 (by first | rfl | exact nar_z (by first | exact Or.inl rfl | exact Or.inr rfl | exact b2i_01 _ | assumption)) ?_
          have z := van_t h27
          rw [he, laA_s, if_pos ⟨h18, z⟩]
          exact ⟨rfl, rfl⟩
        · refine jj_iinc F dX9_latestOf_30 rfl (nI_m i) (by rw [hnl]; decide) ?_
          dsimp only [lq_st, lq_clr, lq_no]
          refine jj_goto F (tgt := 7) dX9_latestOf_33 (by decide) ?_
          refine ih (by omega) ?_
          rw [he, laA_s]
          first
          | (have z : ¬ a_op a i 1 = x := h18; rw [if_neg (fun q => z q.1)]; done)
          | (have z := van_f h27; rw [if_neg (fun q => by rw [z] at q; cases q.2)]; done)
  refine jj_aload_n F dX9_latestOf_0 rfl ?_
  refine jj_geti F g95 (by assumption) (by rfl) dX9_latestOf_1 ?_
  rw [hn]
  refine jj_iconst F (v := nI 1) dX9_latestOf_4 (by decide) ?_
  refine jj_isub F dX9_latestOf_5 ?_
  refine jj_istore_n F dX9_latestOf_6 (by rw [hnl]; decide) ?_
  dsimp only [lq_st, lq_clr, lq_no]
  exact lo _ (Nat.le_refl _) rfl
set_option maxRecDepth 100000 in
set_option maxHeartbeats 1000000 in
theorem c_X9_redoOf {l : Launch} {E : Ee} {M : Mm} {a : Ab} {W : Nat} (hM : RelM M a W) {x : Int32} (hWW : W < 1000) : CtI l E yX9_redoOf (.code yX9_redoOf cX9_redoOf 5 (some .int) :: gl) ({ frames := 0, cells := 0, slots := 0, locals := 0 } : Room) M [.ref (E.2.2 478), .int x] 0 0 (fun r M2 => r = numI (rdA a x (a_n a)) ∧ M2 = M) := by
  refine ctI_of (L0 := [some (.ref (E.2.2 478)), some (.int x), none, none, none]) (by decide) rfl (Nat.le_of_ble_eq_true rfl) rfl ?_
  intro Z hl hE hnl F ret
  subst hE
  have in_X9 : ∀ w ∈ u_ws RX9 TX9 33, w ∈ (.code yX9_redoOf cX9_redoOf 5 (some .int) :: gl) := fun w h => List.mem_cons_of_mem _ (lay_X9 w h)
  have g13 : FG Z 13 9 4 := fg_mk F (C := RX9) (T := TX9) (N := 33) in_X9 rfl (by decide) rfl (List.mem_cons_of_mem _ fk_X9_13)
  have g32 : FG Z 32 9 10 := fg_mk F (C := RX9) (T := TX9) (N := 33) in_X9 rfl (by decide) rfl (List.mem_cons_of_mem _ fk_X9_32)
  have g95 : FG Z 95 9 2 := fg_mk F (C := RX9) (T := TX9) (N := 33) in_X9 rfl (by decide) rfl (List.mem_cons_of_mem _ fk_X9_95)
  obtain ⟨⟨h60, ht, htk, hn, hop, hac, hun, hopk, ⟨u0, hu1, hu2, hu3⟩, C, hC, hCa⟩, ⟨hlk, hll, hlz⟩, hK, ⟨hln, hl40, htx⟩, L0, hL0⟩ := id hM
  have kM := kd_M
  have k479 := kd_479
  have k480 := kd_480
  have k481 := kd_481
  have k482 := kd_482
  have k483 := kd_483
  have k484 := kd_484
  have k485 := kd_485
  have k486 := kd_486
  have k487 := kd_487
  have k488 := kd_488
  have k489 := kd_489
  have k490 := kd_490
  have k491 := kd_491
  have k492 := kd_492
  have k493 := kd_493
  have k494 := kd_494
  have k495 := kd_495
  have k496 := kd_496
  have k497 := kd_497
  have k498 := kd_498
  have k499 := kd_499
  have k500 := kd_500
  have k501 := kd_501
  have k502 := kd_502
  have k503 := kd_503
  have lo : ∀ i, i ≤ a_n a → JJ Z (0, 0) M 4 [some (.ref ((zE Z).2.2 478)), some (.int x), some (.int (numI (rdA a x i))), some (.int (nI i)), none] [] := by
    refine jj_loop (a_n a) ?_ ?_
    · refine jj_iload_n F dX9_redoOf_4 rfl ?_
      refine jj_aload_n F dX9_redoOf_5 rfl ?_
      refine jj_geti F g95 (by assumption) (by rfl) dX9_redoOf_6 ?_
      rw [hn]
      refine jj_icmp_ge F (tgt := 75) dX9_redoOf_9 (by decide) (fun _ => ?_) (fun h9 => absurd (nI_le (by omega) (by omega)) h9)
      refine jj_iload_n F dX9_redoOf_75 rfl ?_
      refine ret _ _ _ _ dX9_redoOf_76 (by first | rfl | exact nar_z (by first | exact Or.inl rfl | exact Or.inr rfl | exact b2i_01 _ | assumption)) ?_
      exact ⟨rfl, rfl⟩
    · intro i hi ih
      have e1 : M.1 480 i = a_op a i 1 := hop i hi 1 (by omega)
      have e2 := hun i hi
      have b1 := hu3 i hi
      have j56 : ∀ b : Bool, rdA a x (i + 1) = (if b = true then some i else rdA a x i) → JJ Z (0, 0) M 56 [some (.ref ((zE Z).2.2 478)), some (.int x), some (.int (numI (rdA a x i))), some (.int (nI i)), none] [.int (b2i b)] := by
        intro b hb
        refine jj_istore F dX9_redoOf_56 (by rw [hnl]; decide) ?_
        dsimp only [lq_st, lq_clr, lq_no]
        refine jj_iload F dX9_redoOf_58 rfl ?_
        refine jj_if_eq F (tgt := 67) dX9_redoOf_60 (by decide) (fun h60 => ?_) (fun h60 => ?_)
        · refine jj_iload_n F dX9_redoOf_67 rfl ?_
          refine jj_istore_n F dX9_redoOf_68 (by rw [hnl]; decide) ?_
          dsimp only [lq_st, lq_clr, lq_no]
          refine jj_iinc F dX9_redoOf_69 rfl (by first | exact iinc1 _ | rfl) (by rw [hnl]; decide) ?_
          dsimp only [lq_st, lq_clr, lq_no]
          refine jj_goto F (tgt := 4) dX9_redoOf_72 (by decide) ?_
          refine jj_less (L2 := [some (.ref ((zE Z).2.2 478)), some (.int x), some (.int (numI (rdA a x (i + 1)))), some (.int (nI (i + 1))), none]) ?_ ih
          rw [hb]
          first
          | (have z := van_t h60; rw [if_pos z]; exact less4e _ _ _ _ _)
          | (have z := van_f h60; rw [if_neg (by rw [z]; decide)]; exact less4e _ _ _ _ _)
        · refine jj_iload_n F dX9_redoOf_63 rfl ?_
          refine jj_goto F (tgt := 68) dX9_redoOf_64 (by decide) ?_
          refine jj_istore_n F dX9_redoOf_68 (by rw [hnl]; decide) ?_
          dsimp only [lq_st, lq_clr, lq_no]
          refine jj_iinc F dX9_redoOf_69 rfl (by first | exact iinc1 _ | rfl) (by rw [hnl]; decide) ?_
          dsimp only [lq_st, lq_clr, lq_no]
          refine jj_goto F (tgt := 4) dX9_redoOf_72 (by decide) ?_
          refine jj_less (L2 := [some (.ref ((zE Z).2.2 478)), some (.int x), some (.int (numI (rdA a x (i + 1)))), some (.int (nI (i + 1))), none]) ?_ ih
          rw [hb]
          first
          | (have z := van_t h60; rw [if_pos z]; exact less4e _ _ _ _ _)
          | (have z := van_f h60; rw [if_neg (by rw [z]; decide)]; exact less4e _ _ _ _ _)
      have hcs : rdA a x i = none ∨ ∃ j, rdA a x i = some j := by cases rdA a x i with | none => exact Or.inl rfl | some j => exact Or.inr ⟨j, rfl⟩
      rcases hcs with hr | ⟨j, hr⟩
      · refine jj_iload_n F dX9_redoOf_4 rfl ?_
        refine jj_aload_n F dX9_redoOf_5 rfl ?_
        refine jj_geti F g95 (by assumption) (by rfl) dX9_redoOf_6 ?_
        rw [hn]
        refine jj_icmp_ge F (tgt := 75) dX9_redoOf_9 (by decide) (fun h9 => absurd h9 (nI_ge (by omega) (by omega))) (fun _ => ?_)
        refine jj_aload_n F dX9_redoOf_12 rfl ?_
        refine jj_getr F g13 (by assumption) (by rfl) dX9_redoOf_13 ?_
        refine jj_iload_n F dX9_redoOf_16 rfl ?_
        refine jj_iald F (by assumption) rfl (by omega) dX9_redoOf_17 ?_
        rw [e1]
        refine jj_iload_n F dX9_redoOf_18 rfl ?_
        refine jj_icmp_ne F (tgt := 55) dX9_redoOf_19 (by decide) (fun h19 => ?_) (fun h19 => ?_)
        · refine jj_iconst F (v := nI 0) dX9_redoOf_55 (by decide) ?_
          first
          | (refine j56 true ?_; have z1 : a_op a i 1 = x := h19; have z2 : ¬ nI (a_un a i) ≤ 0 := h28; have z3 : 0 < a_un a i := Nat.pos_of_ne_zero (fun q => z2 (by rw [q]; decide)); rw [rdA_s, if_pos ⟨z1, z3, by rw [hr]; rfl⟩]; rfl)
          | (refine j56 false ?_; have z : ¬ a_op a i 1 = x := h19; rw [rdA_s, if_neg (fun q => z q.1)]; rfl)
          | (refine j56 false ?_; have z : nI (a_un a i) ≤ 0 := h28; rw [rdA_s, if_neg (fun q => nI_ge (a := 0) q.2.1 (by omega) z)]; rfl)
        · refine jj_aload_n F dX9_redoOf_22 rfl ?_
          refine jj_getr F g32 (by assumption) (by rfl) dX9_redoOf_23 ?_
          refine jj_iload_n F dX9_redoOf_26 rfl ?_
          refine jj_iald F (by assumption) rfl (by omega) dX9_redoOf_27 ?_
          rw [e2]
          refine jj_if_le F (tgt := 55) dX9_redoOf_28 (by decide) (fun h28 => ?_) (fun h28 => ?_)
          · refine jj_iconst F (v := nI 0) dX9_redoOf_55 (by decide) ?_
            first
            | (refine j56 true ?_; have z1 : a_op a i 1 = x := h19; have z2 : ¬ nI (a_un a i) ≤ 0 := h28; have z3 : 0 < a_un a i := Nat.pos_of_ne_zero (fun q => z2 (by rw [q]; decide)); rw [rdA_s, if_pos ⟨z1, z3, by rw [hr]; rfl⟩]; rfl)
            | (refine j56 false ?_; have z : ¬ a_op a i 1 = x := h19; rw [rdA_s, if_neg (fun q => z q.1)]; rfl)
            | (refine j56 false ?_; have z : nI (a_un a i) ≤ 0 := h28; rw [rdA_s, if_neg (fun q => nI_ge (a := 0) q.2.1 (by omega) z)]; rfl)
          · refine jj_iload_n F dX9_redoOf_31 rfl ?_
            refine jj_iconst F (v := -1) dX9_redoOf_32 (by decide) ?_
            refine jj_icmp_eq F (tgt := 51) dX9_redoOf_33 (by decide) (fun _ => ?_) (fun h9 => absurd (by rw [hr]; rfl) h9)
            refine jj_iconst F (v := nI 1) dX9_redoOf_51 (by decide) ?_
            refine jj_goto F (tgt := 56) dX9_redoOf_52 (by decide) ?_
            first
            | (refine j56 true ?_; have z1 : a_op a i 1 = x := h19; have z2 : ¬ nI (a_un a i) ≤ 0 := h28; have z3 : 0 < a_un a i := Nat.pos_of_ne_zero (fun q => z2 (by rw [q]; decide)); rw [rdA_s, if_pos ⟨z1, z3, by rw [hr]; rfl⟩]; rfl)
            | (refine j56 false ?_; have z : ¬ a_op a i 1 = x := h19; rw [rdA_s, if_neg (fun q => z q.1)]; rfl)
            | (refine j56 false ?_; have z : nI (a_un a i) ≤ 0 := h28; rw [rdA_s, if_neg (fun q => nI_ge (a := 0) q.2.1 (by omega) z)]; rfl)
      · have hj := (rdA_lt hr).1
        have e3 := hun j (by omega)
        have b3 := hu3 j (by omega)
        have hmj : ¬ nI j = -1 := nI_m1 (by omega)
        refine jj_iload_n F dX9_redoOf_4 rfl ?_
        refine jj_aload_n F dX9_redoOf_5 rfl ?_
        refine jj_geti F g95 (by assumption) (by rfl) dX9_redoOf_6 ?_
        rw [hn]
        refine jj_icmp_ge F (tgt := 75) dX9_redoOf_9 (by decide) (fun h9 => absurd h9 (nI_ge (by omega) (by omega))) (fun _ => ?_)
        refine jj_aload_n F dX9_redoOf_12 rfl ?_
        refine jj_getr F g13 (by assumption) (by rfl) dX9_redoOf_13 ?_
        refine jj_iload_n F dX9_redoOf_16 rfl ?_
        refine jj_iald F (by assumption) rfl (by omega) dX9_redoOf_17 ?_
        rw [e1]
        refine jj_iload_n F dX9_redoOf_18 rfl ?_
        refine jj_icmp_ne F (tgt := 55) dX9_redoOf_19 (by decide) (fun h19 => ?_) (fun h19 => ?_)
        · refine jj_iconst F (v := nI 0) dX9_redoOf_55 (by decide) ?_
          first
          | (refine j56 false ?_; have z : ¬ a_op a i 1 = x := h19; rw [rdA_s, if_neg (fun q => z q.1)]; rfl)
          | (refine j56 false ?_; have z : nI (a_un a i) ≤ 0 := h28; rw [rdA_s, if_neg (fun q => nI_ge (a := 0) q.2.1 (by omega) z)]; rfl)
          | (refine j56 false ?_; have z : nI (a_un a i) ≤ nI (a_un a j) := h48; have z1 := (nI_leI (by omega) (by omega)).mp z; rw [rdA_s, if_neg (fun q => by have w := q.2.2; rw [hr] at w; simp [rdG] at w; omega)]; rfl)
          | (refine j56 true ?_; have z1 : a_op a i 1 = x := h19; have z2 : ¬ nI (a_un a i) ≤ 0 := h28; have z3 : 0 < a_un a i := Nat.pos_of_ne_zero (fun q => z2 (by rw [q]; decide)); have z4 : ¬ a_un a i ≤ a_un a j := fun q => h48 (nI_le q (by omega)); rw [rdA_s, if_pos ⟨z1, z3, by rw [hr]; simp [rdG]; omega⟩]; rfl)
        · refine jj_aload_n F dX9_redoOf_22 rfl ?_
          refine jj_getr F g32 (by assumption) (by rfl) dX9_redoOf_23 ?_
          refine jj_iload_n F dX9_redoOf_26 rfl ?_
          refine jj_iald F (by assumption) rfl (by omega) dX9_redoOf_27 ?_
          rw [e2]
          refine jj_if_le F (tgt := 55) dX9_redoOf_28 (by decide) (fun h28 => ?_) (fun h28 => ?_)
          · refine jj_iconst F (v := nI 0) dX9_redoOf_55 (by decide) ?_
            first
            | (refine j56 false ?_; have z : ¬ a_op a i 1 = x := h19; rw [rdA_s, if_neg (fun q => z q.1)]; rfl)
            | (refine j56 false ?_; have z : nI (a_un a i) ≤ 0 := h28; rw [rdA_s, if_neg (fun q => nI_ge (a := 0) q.2.1 (by omega) z)]; rfl)
            | (refine j56 false ?_; have z : nI (a_un a i) ≤ nI (a_un a j) := h48; have z1 := (nI_leI (by omega) (by omega)).mp z; rw [rdA_s, if_neg (fun q => by have w := q.2.2; rw [hr] at w; simp [rdG] at w; omega)]; rfl)
            | (refine j56 true ?_; have z1 : a_op a i 1 = x := h19; have z2 : ¬ nI (a_un a i) ≤ 0 := h28; have z3 : 0 < a_un a i := Nat.pos_of_ne_zero (fun q => z2 (by rw [q]; decide)); have z4 : ¬ a_un a i ≤ a_un a j := fun q => h48 (nI_le q (by omega)); rw [rdA_s, if_pos ⟨z1, z3, by rw [hr]; simp [rdG]; omega⟩]; rfl)
          · refine jj_iload_n F dX9_redoOf_31 rfl ?_
            refine jj_iconst F (v := -1) dX9_redoOf_32 (by decide) ?_
            refine jj_icmp_eq F (tgt := 51) dX9_redoOf_33 (by decide) (fun h9 => absurd h9 (by rw [hr]; exact hmj)) (fun _ => ?_)
            refine jj_aload_n F dX9_redoOf_36 rfl ?_
            refine jj_getr F g32 (by assumption) (by rfl) dX9_redoOf_37 ?_
            refine jj_iload_n F dX9_redoOf_40 rfl ?_
            refine jj_iald F (by assumption) rfl (by omega) dX9_redoOf_41 ?_
            rw [e2]
            refine jj_aload_n F dX9_redoOf_42 rfl ?_
            refine jj_getr F g32 (by assumption) (by rfl) dX9_redoOf_43 ?_
            refine jj_iload_n F dX9_redoOf_46 rfl ?_
            refine jj_iald F (by assumption) (show numI (rdA a x i) = nI j by rw [hr]; rfl) (by omega) dX9_redoOf_47 ?_
            rw [e3]
            refine jj_icmp_le F (tgt := 55) dX9_redoOf_48 (by decide) (fun h48 => ?_) (fun h48 => ?_)
            · refine jj_iconst F (v := nI 0) dX9_redoOf_55 (by decide) ?_
              first
              | (refine j56 false ?_; have z : ¬ a_op a i 1 = x := h19; rw [rdA_s, if_neg (fun q => z q.1)]; rfl)
              | (refine j56 false ?_; have z : nI (a_un a i) ≤ 0 := h28; rw [rdA_s, if_neg (fun q => nI_ge (a := 0) q.2.1 (by omega) z)]; rfl)
              | (refine j56 false ?_; have z : nI (a_un a i) ≤ nI (a_un a j) := h48; have z1 := (nI_leI (by omega) (by omega)).mp z; rw [rdA_s, if_neg (fun q => by have w := q.2.2; rw [hr] at w; simp [rdG] at w; omega)]; rfl)
              | (refine j56 true ?_; have z1 : a_op a i 1 = x := h19; have z2 : ¬ nI (a_un a i) ≤ 0 := h28; have z3 : 0 < a_un a i := Nat.pos_of_ne_zero (fun q => z2 (by rw [q]; decide)); have z4 : ¬ a_un a i ≤ a_un a j := fun q => h48 (nI_le q (by omega)); rw [rdA_s, if_pos ⟨z1, z3, by rw [hr]; simp [rdG]; omega⟩]; rfl)
            · refine jj_iconst F (v := nI 1) dX9_redoOf_51 (by decide) ?_
              refine jj_goto F (tgt := 56) dX9_redoOf_52 (by decide) ?_
              first
              | (refine j56 false ?_; have z : ¬ a_op a i 1 = x := h19; rw [rdA_s, if_neg (fun q => z q.1)]; rfl)
              | (refine j56 false ?_; have z : nI (a_un a i) ≤ 0 := h28; rw [rdA_s, if_neg (fun q => nI_ge (a := 0) q.2.1 (by omega) z)]; rfl)
              | (refine j56 false ?_; have z : nI (a_un a i) ≤ nI (a_un a j) := h48; have z1 := (nI_leI (by omega) (by omega)).mp z; rw [rdA_s, if_neg (fun q => by have w := q.2.2; rw [hr] at w; simp [rdG] at w; omega)]; rfl)
              | (refine j56 true ?_; have z1 : a_op a i 1 = x := h19; have z2 : ¬ nI (a_un a i) ≤ 0 := h28; have z3 : 0 < a_un a i := Nat.pos_of_ne_zero (fun q => z2 (by rw [q]; decide)); have z4 : ¬ a_un a i ≤ a_un a j := fun q => h48 (nI_le q (by omega)); rw [rdA_s, if_pos ⟨z1, z3, by rw [hr]; simp [rdG]; omega⟩]; rfl)
  refine jj_iconst F (v := -1) dX9_redoOf_0 (by decide) ?_
  refine jj_istore_n F dX9_redoOf_1 (by rw [hnl]; decide) ?_
  dsimp only [lq_st, lq_clr, lq_no]
  refine jj_iconst F (v := nI 0) dX9_redoOf_2 (by decide) ?_
  refine jj_istore_n F dX9_redoOf_3 (by rw [hnl]; decide) ?_
  dsimp only [lq_st, lq_clr, lq_no]
  exact lo 0 (by omega)
theorem not_f {b : Bool} (h : (!b) = false) : b = true := by cases b <;> simp at h ⊢
theorem not_t {b : Bool} (h : (!b) = true) : b = false := by cases b <;> simp at h ⊢
set_option maxRecDepth 100000 in
set_option maxHeartbeats 1000000 in
theorem c_X9_mayLease {l : Launch} {E : Ee} {M : Mm} {q : Nat} {us fa la : Nat → Nat} (hq : M.1 478 13 = nI q) (h6 : q < 6) (hlz : ∀ j, j < q → M.1 488 j = nI (us j) ∧ M.1 489 j = nI (fa j) ∧ M.1 490 j = nI (la j) ∧ us j < 5 ∧ fa j < 256 ∧ la j < 256) {x : Int32} {f0 l0 : Nat} (hf0 : M.1 489 q = nI f0) (hl0 : M.1 490 q = nI l0) (h1 : f0 < 256) (h2 : l0 < 256) : CtI l E yX9_mayLease (.code yX9_mayLease cX9_mayLease 4 (some .boolean) :: gl) ({ frames := 3, cells := 0, slots := 0, locals := 73 } : Room) M [.ref (E.2.2 478), .int x] 0 0 (fun r M2 => r = b2i (!exB 256 (fun c => rect f0 l0 c && exB q (fun j => !decide (M.1 488 j = x) && rect (fa j) (la j) c))) ∧ M2 = M) := by
  refine ctI_of (L0 := [some (.ref (E.2.2 478)), some (.int x), none, none]) (by decide) rfl (Nat.le_of_ble_eq_true rfl) rfl ?_
  intro Z hl hE hnl F ret
  subst hE
  have in_X9 : ∀ w ∈ u_ws RX9 TX9 33, w ∈ (.code yX9_mayLease cX9_mayLease 4 (some .boolean) :: gl) := fun w h => List.mem_cons_of_mem _ (lay_X9 w h)
  have g136 : FG Z 136 9 13 := fg_mk F (C := RX9) (T := TX9) (N := 33) in_X9 rfl (by decide) rfl (List.mem_cons_of_mem _ fk_X9_136)
  have kM := kd_M
  have k479 := kd_479
  have k480 := kd_480
  have k481 := kd_481
  have k482 := kd_482
  have k483 := kd_483
  have k484 := kd_484
  have k485 := kd_485
  have k486 := kd_486
  have k487 := kd_487
  have k488 := kd_488
  have k489 := kd_489
  have k490 := kd_490
  have k491 := kd_491
  have k492 := kd_492
  have k493 := kd_493
  have k494 := kd_494
  have k495 := kd_495
  have k496 := kd_496
  have k497 := kd_497
  have k498 := kd_498
  have k499 := kd_499
  have k500 := kd_500
  have k501 := kd_501
  have k502 := kd_502
  have k503 := kd_503
  have lo : ∀ i, i ≤ 256 → JJ Z (0, 0) (M) 17 [some (.ref ((zE Z).2.2 478)), some (.int x), some (.int (b2i (!exB i (fun c => rect f0 l0 c && exB q (fun j => !decide (M.1 488 j = x) && rect (fa j) (la j) c))))), some (.int (nI i))] [] := by
    refine jj_loop (256) ?_ ?_
    · refine jj_iload_n F dX9_mayLease_17 rfl ?_
      refine jj_sipush F (v := nI 256) dX9_mayLease_18 (by decide) ?_
      refine jj_icmp_ge F (tgt := 61) dX9_mayLease_21 (by decide) (fun _ => ?_) (fun h9 => absurd (nI_le (by omega) (by omega)) h9)
      refine jj_iload_n F dX9_mayLease_61 rfl ?_
      exact ret _ _ _ _ dX9_mayLease_62 (nar_z (b2i_01 _)) ⟨rfl, rfl⟩
    · intro i hi ih
      refine jj_iload_n F dX9_mayLease_17 rfl ?_
      refine jj_sipush F (v := nI 256) dX9_mayLease_18 (by decide) ?_
      refine jj_icmp_ge F (tgt := 61) dX9_mayLease_21 (by decide) (fun h9 => absurd h9 (nI_ge (by omega) (by omega))) (fun _ => ?_)
      refine jj_iload_n F dX9_mayLease_24 rfl ?_
      refine jj_if_eq F (tgt := 53) dX9_mayLease_25 (by decide) (fun h25 => ?_) (fun h25 => ?_)
      · refine jj_iconst F (v := nI 0) dX9_mayLease_53 (by decide) ?_
        refine jj_istore_n F dX9_mayLease_54 (by rw [hnl]; decide) ?_
        dsimp only [lq_st, lq_clr, lq_no]
        refine jj_iinc F dX9_mayLease_55 rfl (by first | exact iinc1 _ | rfl) (by rw [hnl]; decide) ?_
        dsimp only [lq_st, lq_clr, lq_no]
        refine jj_goto F (tgt := 17) dX9_mayLease_58 (by decide) ?_
        refine jj_eqL ?_ ih
        first
        | (have z1 := not_f (van_f h25); rw [exB_s1 z1]; rfl)
        | (have z1 := not_t (van_t h25); have z2 := van_f h37; rw [exB_s0 z1 (by show (rect f0 l0 i && _) = false; rw [z2]; rfl)]; rfl)
        | (have z1 := not_t (van_t h25); have z2 := van_f h46; rw [exB_s0 z1 (by show (rect f0 l0 i && _) = false; rw [z2, Bool.and_false])]; rfl)
        | (have z2 := van_t h37; have z3 := van_t h46; rw [exB_s2 (p := (fun c => rect f0 l0 c && exB q (fun j => !decide (M.1 488 j = x) && rect (fa j) (la j) c))) (by show (rect f0 l0 i && _) = true; rw [z2, z3]; rfl)]; rfl)
      · refine jj_aload_n F dX9_mayLease_28 rfl ?_
        refine jj_aload_n F dX9_mayLease_29 rfl ?_
        refine jj_geti F g136 (by assumption) (by rfl) dX9_mayLease_30 ?_
        rw [hq]
        refine jj_iload_n F dX9_mayLease_33 rfl ?_
        refine jj_callVi (na := 2) F (c_X9_isInLease (k := q) (by omega) hf0 hl0 h1 h2 hi) (gl_V mk_X9_167 vw_X9_isInLease) rfl rfl rfl (by decide +kernel) ⟨Nat.le_of_ble_eq_true rfl, Nat.le_of_ble_eq_true rfl⟩ kM rfl rfl rfl (Nat.le_of_ble_eq_true rfl) ⟨Nat.le_of_ble_eq_true rfl, Nat.le_of_ble_eq_true rfl⟩ dX9_mayLease_34 (fun r34 M34 hp34 => ?_)
        obtain ⟨rfl, rfl⟩ := symm2 hp34
        refine jj_if_eq F (tgt := 49) dX9_mayLease_37 (by decide) (fun h37 => ?_) (fun h37 => ?_)
        · refine jj_iconst F (v := nI 1) dX9_mayLease_49 (by decide) ?_
          refine jj_goto F (tgt := 54) dX9_mayLease_50 (by decide) ?_
          refine jj_istore_n F dX9_mayLease_54 (by rw [hnl]; decide) ?_
          dsimp only [lq_st, lq_clr, lq_no]
          refine jj_iinc F dX9_mayLease_55 rfl (by first | exact iinc1 _ | rfl) (by rw [hnl]; decide) ?_
          dsimp only [lq_st, lq_clr, lq_no]
          refine jj_goto F (tgt := 17) dX9_mayLease_58 (by decide) ?_
          refine jj_eqL ?_ ih
          first
          | (have z1 := not_f (van_f h25); rw [exB_s1 z1]; rfl)
          | (have z1 := not_t (van_t h25); have z2 := van_f h37; rw [exB_s0 z1 (by show (rect f0 l0 i && _) = false; rw [z2]; rfl)]; rfl)
          | (have z1 := not_t (van_t h25); have z2 := van_f h46; rw [exB_s0 z1 (by show (rect f0 l0 i && _) = false; rw [z2, Bool.and_false])]; rfl)
          | (have z2 := van_t h37; have z3 := van_t h46; rw [exB_s2 (p := (fun c => rect f0 l0 c && exB q (fun j => !decide (M.1 488 j = x) && rect (fa j) (la j) c))) (by show (rect f0 l0 i && _) = true; rw [z2, z3]; rfl)]; rfl)
        · refine jj_aload_n F dX9_mayLease_40 rfl ?_
          refine jj_iload_n F dX9_mayLease_41 rfl ?_
          refine jj_iload_n F dX9_mayLease_42 rfl ?_
          refine jj_callVi (na := 2) F (c_X9_isClosed (x := x) hq (by omega) hlz hi) (gl_V mk_X9_170 vw_X9_isClosed) rfl rfl rfl (by decide +kernel) ⟨Nat.le_of_ble_eq_true rfl, Nat.le_of_ble_eq_true rfl⟩ kM rfl rfl rfl (Nat.le_of_ble_eq_true rfl) ⟨Nat.le_of_ble_eq_true rfl, Nat.le_of_ble_eq_true rfl⟩ dX9_mayLease_43 (fun r43 M43 hp43 => ?_)
          obtain ⟨rfl, rfl⟩ := symm2 hp43
          refine jj_if_ne F (tgt := 53) dX9_mayLease_46 (by decide) (fun h46 => ?_) (fun h46 => ?_)
          · refine jj_iconst F (v := nI 0) dX9_mayLease_53 (by decide) ?_
            refine jj_istore_n F dX9_mayLease_54 (by rw [hnl]; decide) ?_
            dsimp only [lq_st, lq_clr, lq_no]
            refine jj_iinc F dX9_mayLease_55 rfl (by first | exact iinc1 _ | rfl) (by rw [hnl]; decide) ?_
            dsimp only [lq_st, lq_clr, lq_no]
            refine jj_goto F (tgt := 17) dX9_mayLease_58 (by decide) ?_
            refine jj_eqL ?_ ih
            first
            | (have z1 := not_f (van_f h25); rw [exB_s1 z1]; rfl)
            | (have z1 := not_t (van_t h25); have z2 := van_f h37; rw [exB_s0 z1 (by show (rect f0 l0 i && _) = false; rw [z2]; rfl)]; rfl)
            | (have z1 := not_t (van_t h25); have z2 := van_f h46; rw [exB_s0 z1 (by show (rect f0 l0 i && _) = false; rw [z2, Bool.and_false])]; rfl)
            | (have z2 := van_t h37; have z3 := van_t h46; rw [exB_s2 (p := (fun c => rect f0 l0 c && exB q (fun j => !decide (M.1 488 j = x) && rect (fa j) (la j) c))) (by show (rect f0 l0 i && _) = true; rw [z2, z3]; rfl)]; rfl)
          · refine jj_iconst F (v := nI 1) dX9_mayLease_49 (by decide) ?_
            refine jj_goto F (tgt := 54) dX9_mayLease_50 (by decide) ?_
            refine jj_istore_n F dX9_mayLease_54 (by rw [hnl]; decide) ?_
            dsimp only [lq_st, lq_clr, lq_no]
            refine jj_iinc F dX9_mayLease_55 rfl (by first | exact iinc1 _ | rfl) (by rw [hnl]; decide) ?_
            dsimp only [lq_st, lq_clr, lq_no]
            refine jj_goto F (tgt := 17) dX9_mayLease_58 (by decide) ?_
            refine jj_eqL ?_ ih
            first
            | (have z1 := not_f (van_f h25); rw [exB_s1 z1]; rfl)
            | (have z1 := not_t (van_t h25); have z2 := van_f h37; rw [exB_s0 z1 (by show (rect f0 l0 i && _) = false; rw [z2]; rfl)]; rfl)
            | (have z1 := not_t (van_t h25); have z2 := van_f h46; rw [exB_s0 z1 (by show (rect f0 l0 i && _) = false; rw [z2, Bool.and_false])]; rfl)
            | (have z2 := van_t h37; have z3 := van_t h46; rw [exB_s2 (p := (fun c => rect f0 l0 c && exB q (fun j => !decide (M.1 488 j = x) && rect (fa j) (la j) c))) (by show (rect f0 l0 i && _) = true; rw [z2, z3]; rfl)]; rfl)
  refine jj_aload_n F dX9_mayLease_0 rfl ?_
  refine jj_geti F g136 (by assumption) (by rfl) dX9_mayLease_1 ?_
  rw [hq]
  refine jj_bipush F (v := nI 6) dX9_mayLease_4 (by decide) ?_
  refine jj_icmp_ge F (tgt := 13) dX9_mayLease_6 (by decide) (fun h9 => absurd h9 (nI_ge (by omega) (by omega))) (fun _ => ?_)
  refine jj_iconst F (v := nI 1) dX9_mayLease_9 (by decide) ?_
  refine jj_goto F (tgt := 14) dX9_mayLease_10 (by decide) ?_
  refine jj_istore_n F dX9_mayLease_14 (by rw [hnl]; decide) ?_
  dsimp only [lq_st, lq_clr, lq_no]
  refine jj_iconst F (v := nI 0) dX9_mayLease_15 (by decide) ?_
  refine jj_istore_n F dX9_mayLease_16 (by rw [hnl]; decide) ?_
  dsimp only [lq_st, lq_clr, lq_no]
  exact lo 0 (by omega)
/-- the rows of leases -/
def quad (M : Mm) (f1 f2 f3 f4 : Nat → Int32) : Mm := wA (wA (wA (wA M 488 f1) 489 f2) 490 f3) 491 f4
theorem quad_s (M : Mm) : quad M (M.1 488) (M.1 489) (M.1 490) (M.1 491) = M := by
  refine mm_ext (fun a => ?_) rfl
  unfold quad
  by_cases h4 : a = 491
  · subst h4; rw [wA_s]
  · rw [wA_n h4]
    by_cases h3 : a = 490
    · subst h3; rw [wA_s]
    · rw [wA_n h3]
      by_cases h2 : a = 489
      · subst h2; rw [wA_s]
      · rw [wA_n h2]
        by_cases h1 : a = 488
        · subst h1; rw [wA_s]
        · rw [wA_n h1]
theorem quad_1 {M : Mm} {f1 f2 f3 f4 : Nat → Int32} : (quad M f1 f2 f3 f4).1 488 = f1 := by unfold quad; rw [wA_n (by decide), wA_n (by decide), wA_n (by decide), wA_s]
theorem quad_2 {M : Mm} {f1 f2 f3 f4 : Nat → Int32} : (quad M f1 f2 f3 f4).1 489 = f2 := by unfold quad; rw [wA_n (by decide), wA_n (by decide), wA_s]
theorem quad_3 {M : Mm} {f1 f2 f3 f4 : Nat → Int32} : (quad M f1 f2 f3 f4).1 490 = f3 := by unfold quad; rw [wA_n (by decide), wA_s]
theorem quad_4 {M : Mm} {f1 f2 f3 f4 : Nat → Int32} : (quad M f1 f2 f3 f4).1 491 = f4 := by unfold quad; rw [wA_s]
theorem quad_o {M : Mm} {f1 f2 f3 f4 : Nat → Int32} {a : Nat} (h : a < 488 ∨ 491 < a) : (quad M f1 f2 f3 f4).1 a = M.1 a := by unfold quad; rw [wA_n (by omega), wA_n (by omega), wA_n (by omega), wA_n (by omega)]
theorem quad_put {M : Mm} {f1 f2 f3 f4 : Nat → Int32} {j : Nat} {v1 v2 v3 v4 : Int32} : wA (wA (wA (wA (quad M f1 f2 f3 f4) 488 (upd f1 j v1)) 489 (upd f2 j v2)) 490 (upd f3 j v3)) 491 (upd f4 j v4) = quad M (upd f1 j v1) (upd f2 j v2) (upd f3 j v3) (upd f4 j v4) := by
  refine mm_ext (fun a => ?_) rfl
  by_cases h4 : a = 491
  · subst h4; rw [wA_s, quad_4]
  · rw [wA_n h4]
    by_cases h3 : a = 490
    · subst h3; rw [wA_s, quad_3]
    · rw [wA_n h3]
      by_cases h2 : a = 489
      · subst h2; rw [wA_s, quad_2]
      · rw [wA_n h2]
        by_cases h1 : a = 488
        · subst h1; rw [wA_s, quad_1]
        · rw [wA_n h1, quad_o (by omega), quad_o (by omega)]
def lkR (f1 f2 f3 f4 : Nat → Int32) (j : Nat) (z : Lz) : Prop := f1 j = nI z.1 ∧ f2 j = nI z.2.1 ∧ f3 j = nI z.2.2.1 ∧ f4 j = nI z.2.2.2
/-- the first i leases were looked at -/
def dInv (lk : List Lz) (p : Lz → Bool) (i : Nat) (f1 f2 f3 f4 : Nat → Int32) : Prop := (∀ j z, ((lk.take i).filter p)[j]? = some z → lkR f1 f2 f3 f4 j z) ∧ ∀ j z, i ≤ j → lk[j]? = some z → lkR f1 f2 f3 f4 j z
theorem take_f {lk : List Lz} {p : Lz → Bool} {i : Nat} {z : Lz} (h : lk[i]? = some z) : (lk.take (i + 1)).filter p = (lk.take i).filter p ++ (if p z = true then [z] else []) := by
  rw [List.take_succ, h, List.filter_append]
  congr 1
  cases q : p z <;> simp [q]
theorem take_y {lk : List Lz} {p : Lz → Bool} {i : Nat} {z : Lz} (h : lk[i]? = some z) (hp : p z = true) : (lk.take (i + 1)).filter p = (lk.take i).filter p ++ [z] := by rw [take_f h, if_pos hp]
theorem take_n {lk : List Lz} {p : Lz → Bool} {i : Nat} {z : Lz} (h : lk[i]? = some z) (hp : p z = false) : (lk.take (i + 1)).filter p = (lk.take i).filter p := by rw [take_f h, if_neg (by rw [hp]; decide), List.append_nil]
theorem dInv_y {lk : List Lz} {p : Lz → Bool} {i : Nat} {f1 f2 f3 f4 : Nat → Int32} {z : Lz} (h : lk[i]? = some z) (hp : p z = true) (hI : dInv lk p i f1 f2 f3 f4) : dInv lk p (i + 1) (upd f1 ((lk.take i).filter p).length (f1 i)) (upd f2 ((lk.take i).filter p).length (f2 i)) (upd f3 ((lk.take i).filter p).length (f3 i)) (upd f4 ((lk.take i).filter p).length (f4 i)) := by
  have hl : ((lk.take i).filter p).length ≤ i := Nat.le_trans (List.length_filter_le _ _) (by rw [List.length_take]; omega)
  refine ⟨fun j w hw => ?_, fun j w hj hw => ?_⟩
  · rw [take_f h, if_pos hp] at hw
    by_cases q : j = ((lk.take i).filter p).length
    · subst q
      rw [List.getElem?_append_right (Nat.le_refl _), Nat.sub_self] at hw
      cases hw
      have := hI.2 i z (Nat.le_refl _) h
      unfold lkR at this ⊢
      simp only [upd, if_true]
      exact this
    · have hj : j < ((lk.take i).filter p).length := by
        rcases Nat.lt_or_ge j ((lk.take i).filter p).length with a | a
        · exact a
        · rw [List.getElem?_append_right a] at hw
          have : j - ((lk.take i).filter p).length ≠ 0 := by omega
          obtain ⟨k, hk⟩ := Nat.exists_eq_succ_of_ne_zero this
          rw [hk] at hw
          simp at hw
      rw [List.getElem?_append_left hj] at hw
      have := hI.1 j w hw
      unfold lkR at this ⊢
      simp only [upd, if_neg q]
      exact this
  · have := hI.2 j w (by omega) hw
    unfold lkR at this ⊢
    simp only [upd, if_neg (show ¬ j = ((lk.take i).filter p).length by omega)]
    exact this
theorem dInv_n {lk : List Lz} {p : Lz → Bool} {i : Nat} {f1 f2 f3 f4 : Nat → Int32} {z : Lz} (h : lk[i]? = some z) (hp : p z = false) (hI : dInv lk p i f1 f2 f3 f4) : dInv lk p (i + 1) f1 f2 f3 f4 := ⟨fun j w hw => by
  rw [take_f h, if_neg (by rw [hp]; decide), List.append_nil] at hw
  exact hI.1 j w hw, fun j w hj hw => hI.2 j w (by omega) hw⟩
set_option maxRecDepth 100000 in
set_option maxHeartbeats 1000000 in
theorem c_X9_dropLeases {l : Launch} {E : Ee} {M : Mm} {t : Nat} {x : Int32} {lk : List Lz} (ht1 : M.1 478 1 = nI t) (ht : t < 200000) (h6 : lk.length ≤ 6) (hq : M.1 478 13 = nI lk.length) (hlz : ∀ j z, lk[j]? = some z → lkR (M.1 488) (M.1 489) (M.1 490) (M.1 491) j z) (hb : ∀ z ∈ lk, z.1 < 5 ∧ z.2.2.2 < 200000) : CtV l E yX9_dropLeases (.code yX9_dropLeases cX9_dropLeases 4 none :: gl) ({ frames := 0, cells := 0, slots := 0, locals := 0 } : Room) M [.ref (E.2.2 478), .int x] 0 0 (fun M2 => ∃ f1 f2 f3 f4 : Nat → Int32, M2 = wA (quad M f1 f2 f3 f4) 478 (upd (M.1 478) 13 (nI (lk.filter (fun z => decide (t < z.2.2.2) && !decide (nI z.1 = x))).length)) ∧ ∀ j z, (lk.filter (fun z => decide (t < z.2.2.2) && !decide (nI z.1 = x)))[j]? = some z → lkR f1 f2 f3 f4 j z) := by
  refine ctV_of (L0 := [some (.ref (E.2.2 478)), some (.int x), none, none]) (by decide) rfl (Nat.le_of_ble_eq_true rfl) rfl ?_
  intro Z hl hE hnl F ret
  subst hE
  have in_X9 : ∀ w ∈ u_ws RX9 TX9 33, w ∈ (.code yX9_dropLeases cX9_dropLeases 4 none :: gl) := fun w h => List.mem_cons_of_mem _ (lay_X9 w h)
  have g39 : FG Z 39 9 14 := fg_mk F (C := RX9) (T := TX9) (N := 33) in_X9 rfl (by decide) rfl (List.mem_cons_of_mem _ fk_X9_39)
  have g42 : FG Z 42 9 15 := fg_mk F (C := RX9) (T := TX9) (N := 33) in_X9 rfl (by decide) rfl (List.mem_cons_of_mem _ fk_X9_42)
  have g45 : FG Z 45 9 16 := fg_mk F (C := RX9) (T := TX9) (N := 33) in_X9 rfl (by decide) rfl (List.mem_cons_of_mem _ fk_X9_45)
  have g48 : FG Z 48 9 17 := fg_mk F (C := RX9) (T := TX9) (N := 33) in_X9 rfl (by decide) rfl (List.mem_cons_of_mem _ fk_X9_48)
  have g126 : FG Z 126 9 1 := fg_mk F (C := RX9) (T := TX9) (N := 33) in_X9 rfl (by decide) rfl (List.mem_cons_of_mem _ fk_X9_126)
  have g136 : FG Z 136 9 13 := fg_mk F (C := RX9) (T := TX9) (N := 33) in_X9 rfl (by decide) rfl (List.mem_cons_of_mem _ fk_X9_136)
  have p136 : FP Z 136 9 13 .int := fp_mk F (C := RX9) (T := TX9) (N := 33) in_X9 tyX9_ok nmX9 rfl (by decide) rfl (List.mem_cons_of_mem _ fk_X9_136) rfl (by decide +kernel)
  have kM := kd_M
  have k479 := kd_479
  have k480 := kd_480
  have k481 := kd_481
  have k482 := kd_482
  have k483 := kd_483
  have k484 := kd_484
  have k485 := kd_485
  have k486 := kd_486
  have k487 := kd_487
  have k488 := kd_488
  have k489 := kd_489
  have k490 := kd_490
  have k491 := kd_491
  have k492 := kd_492
  have k493 := kd_493
  have k494 := kd_494
  have k495 := kd_495
  have k496 := kd_496
  have k497 := kd_497
  have k498 := kd_498
  have k499 := kd_499
  have k500 := kd_500
  have k501 := kd_501
  have k502 := kd_502
  have k503 := kd_503
  have lo : ∀ i, i ≤ lk.length → ∀ f1 f2 f3 f4 : Nat → Int32, dInv lk (fun z => decide (t < z.2.2.2) && !decide (nI z.1 = x)) i f1 f2 f3 f4 → JJ Z (0, 0) (quad M f1 f2 f3 f4) 4 [some (.ref ((zE Z).2.2 478)), some (.int x), some (.int (nI ((lk.take i).filter (fun z => decide (t < z.2.2.2) && !decide (nI z.1 = x))).length)), some (.int (nI i))] [] := by
    refine jj_loop lk.length ?_ ?_
    · intro f1 f2 f3 f4 hI
      refine jj_iload_n F dX9_dropLeases_4 rfl ?_
      refine jj_aload_n F dX9_dropLeases_5 rfl ?_
      refine jj_geti F g136 (by assumption) (by rfl) dX9_dropLeases_6 ?_
      rw [quad_o (by omega), hq]
      refine jj_icmp_ge F (tgt := 92) dX9_dropLeases_9 (by decide) (fun _ => ?_) (fun h9 => absurd (nI_le (by omega) (by omega)) h9)
      refine jj_aload_n F dX9_dropLeases_92 rfl ?_
      refine jj_iload_n F dX9_dropLeases_93 rfl ?_
      refine jj_puti F p136 (by assumption) (by rfl) dX9_dropLeases_94 ?_
      refine ret _ _ _ dX9_dropLeases_97 ?_
      rw [List.take_length]
      refine ⟨f1, f2, f3, f4, ?_, fun j z hz => ?_⟩
      · rw [quad_o (by omega)]
      · have := hI.1 j z (by rw [List.take_length]; exact hz)
        exact this
    · intro i hi ih f1 f2 f3 f4 hI
      have hz : lk[i]? = some lk[i] := List.getElem?_eq_getElem hi
      obtain ⟨r1, r2, r3, r4⟩ := hI.2 i _ (Nat.le_refl _) hz
      obtain ⟨b1, b2⟩ := hb _ (List.getElem_mem hi)
      have hl : ((lk.take i).filter (fun z => decide (t < z.2.2.2) && !decide (nI z.1 = x))).length ≤ i := Nat.le_trans (List.length_filter_le _ _) (by rw [List.length_take]; omega)
      refine jj_iload_n F dX9_dropLeases_4 rfl ?_
      refine jj_aload_n F dX9_dropLeases_5 rfl ?_
      refine jj_geti F g136 (by assumption) (by rfl) dX9_dropLeases_6 ?_
      rw [quad_o (by omega), hq]
      refine jj_icmp_ge F (tgt := 92) dX9_dropLeases_9 (by decide) (fun h9 => absurd h9 (nI_ge (by omega) (by omega))) (fun _ => ?_)
      refine jj_aload_n F dX9_dropLeases_12 rfl ?_
      refine jj_getr F g48 (by assumption) (by rfl) dX9_dropLeases_13 ?_
      refine jj_iload_n F dX9_dropLeases_16 rfl ?_
      refine jj_iald F (by assumption) rfl (by omega) dX9_dropLeases_17 ?_
      rw [quad_4, r4]
      refine jj_aload_n F dX9_dropLeases_18 rfl ?_
      refine jj_geti F g126 (by assumption) (by rfl) dX9_dropLeases_19 ?_
      rw [quad_o (by omega), ht1]
      refine jj_icmp_le F (tgt := 86) dX9_dropLeases_22 (by decide) (fun h22 => ?_) (fun h22 => ?_)
      · first
        | (have z1 : nI lk[i].2.2.2 ≤ nI t := h22; have hp : (fun z => decide (t < z.2.2.2) && !decide (nI z.1 = x)) lk[i] = false := (by show (decide (t < lk[i].2.2.2) && _) = false; rw [decide_eq_false (by have := (nI_leI (by omega) (by omega)).mp z1; omega)]; rfl); refine jj_iinc F dX9_dropLeases_86 rfl (iinc1 _) (by rw [hnl]; decide) ?_; dsimp only [lq_st, lq_clr, lq_no]; refine jj_goto F (tgt := 4) dX9_dropLeases_89 (by decide) ?_; have hih := ih f1 f2 f3 f4 (dInv_n hz hp hI); rw [take_n (p := (fun z => decide (t < z.2.2.2) && !decide (nI z.1 = x))) hz hp] at hih; exact hih)
        | (have z1 : nI lk[i].1 = x := h32; have hp : (fun z => decide (t < z.2.2.2) && !decide (nI z.1 = x)) lk[i] = false := (by show (_ && !decide (nI lk[i].1 = x)) = false; rw [decide_eq_true z1, Bool.not_true, Bool.and_false]); refine jj_iinc F dX9_dropLeases_86 rfl (iinc1 _) (by rw [hnl]; decide) ?_; dsimp only [lq_st, lq_clr, lq_no]; refine jj_goto F (tgt := 4) dX9_dropLeases_89 (by decide) ?_; have hih := ih f1 f2 f3 f4 (dInv_n hz hp hI); rw [take_n (p := (fun z => decide (t < z.2.2.2) && !decide (nI z.1 = x))) hz hp] at hih; exact hih)
      · refine jj_aload_n F dX9_dropLeases_25 rfl ?_
        refine jj_getr F g39 (by assumption) (by rfl) dX9_dropLeases_26 ?_
        refine jj_iload_n F dX9_dropLeases_29 rfl ?_
        refine jj_iald F (by assumption) rfl (by omega) dX9_dropLeases_30 ?_
        rw [quad_1, r1]
        refine jj_iload_n F dX9_dropLeases_31 rfl ?_
        refine jj_icmp_eq F (tgt := 86) dX9_dropLeases_32 (by decide) (fun h32 => ?_) (fun h32 => ?_)
        · first
          | (have z1 : nI lk[i].2.2.2 ≤ nI t := h22; have hp : (fun z => decide (t < z.2.2.2) && !decide (nI z.1 = x)) lk[i] = false := (by show (decide (t < lk[i].2.2.2) && _) = false; rw [decide_eq_false (by have := (nI_leI (by omega) (by omega)).mp z1; omega)]; rfl); refine jj_iinc F dX9_dropLeases_86 rfl (iinc1 _) (by rw [hnl]; decide) ?_; dsimp only [lq_st, lq_clr, lq_no]; refine jj_goto F (tgt := 4) dX9_dropLeases_89 (by decide) ?_; have hih := ih f1 f2 f3 f4 (dInv_n hz hp hI); rw [take_n (p := (fun z => decide (t < z.2.2.2) && !decide (nI z.1 = x))) hz hp] at hih; exact hih)
          | (have z1 : nI lk[i].1 = x := h32; have hp : (fun z => decide (t < z.2.2.2) && !decide (nI z.1 = x)) lk[i] = false := (by show (_ && !decide (nI lk[i].1 = x)) = false; rw [decide_eq_true z1, Bool.not_true, Bool.and_false]); refine jj_iinc F dX9_dropLeases_86 rfl (iinc1 _) (by rw [hnl]; decide) ?_; dsimp only [lq_st, lq_clr, lq_no]; refine jj_goto F (tgt := 4) dX9_dropLeases_89 (by decide) ?_; have hih := ih f1 f2 f3 f4 (dInv_n hz hp hI); rw [take_n (p := (fun z => decide (t < z.2.2.2) && !decide (nI z.1 = x))) hz hp] at hih; exact hih)
        · refine jj_aload_n F dX9_dropLeases_35 rfl ?_
          refine jj_getr F g39 (by assumption) (by rfl) dX9_dropLeases_36 ?_
          refine jj_iload_n F dX9_dropLeases_39 rfl ?_
          refine jj_aload_n F dX9_dropLeases_40 rfl ?_
          refine jj_getr F g39 (by assumption) (by rfl) dX9_dropLeases_41 ?_
          refine jj_iload_n F dX9_dropLeases_44 rfl ?_
          refine jj_iald F (by assumption) rfl (by omega) dX9_dropLeases_45 ?_
          rw [quad_1]
          refine jj_iast F (by assumption) rfl (by omega) dX9_dropLeases_46 ?_
          rw [quad_1]
          refine jj_aload_n F dX9_dropLeases_47 rfl ?_
          refine jj_getr F g42 (by assumption) (by rfl) dX9_dropLeases_48 ?_
          refine jj_iload_n F dX9_dropLeases_51 rfl ?_
          refine jj_aload_n F dX9_dropLeases_52 rfl ?_
          refine jj_getr F g42 (by assumption) (by rfl) dX9_dropLeases_53 ?_
          refine jj_iload_n F dX9_dropLeases_56 rfl ?_
          refine jj_iald F (by assumption) rfl (by omega) dX9_dropLeases_57 ?_
          rw [wA_n (by decide), quad_2]
          refine jj_iast F (by assumption) rfl (by omega) dX9_dropLeases_58 ?_
          rw [wA_n (by decide), quad_2]
          refine jj_aload_n F dX9_dropLeases_59 rfl ?_
          refine jj_getr F g45 (by assumption) (by rfl) dX9_dropLeases_60 ?_
          refine jj_iload_n F dX9_dropLeases_63 rfl ?_
          refine jj_aload_n F dX9_dropLeases_64 rfl ?_
          refine jj_getr F g45 (by assumption) (by rfl) dX9_dropLeases_65 ?_
          refine jj_iload_n F dX9_dropLeases_68 rfl ?_
          refine jj_iald F (by assumption) rfl (by omega) dX9_dropLeases_69 ?_
          rw [wA_n (by decide), wA_n (by decide), quad_3]
          refine jj_iast F (by assumption) rfl (by omega) dX9_dropLeases_70 ?_
          rw [wA_n (by decide), wA_n (by decide), quad_3]
          refine jj_aload_n F dX9_dropLeases_71 rfl ?_
          refine jj_getr F g48 (by assumption) (by rfl) dX9_dropLeases_72 ?_
          refine jj_iload_n F dX9_dropLeases_75 rfl ?_
          refine jj_aload_n F dX9_dropLeases_76 rfl ?_
          refine jj_getr F g48 (by assumption) (by rfl) dX9_dropLeases_77 ?_
          refine jj_iload_n F dX9_dropLeases_80 rfl ?_
          refine jj_iald F (by assumption) rfl (by omega) dX9_dropLeases_81 ?_
          rw [wA_n (by decide), wA_n (by decide), wA_n (by decide), quad_4]
          refine jj_iast F (by assumption) rfl (by omega) dX9_dropLeases_82 ?_
          rw [wA_n (by decide), wA_n (by decide), wA_n (by decide), quad_4]
          have z1 : ¬ nI lk[i].2.2.2 ≤ nI t := h22
          have z2 : ¬ nI lk[i].1 = x := h32
          have hp : (fun z => decide (t < z.2.2.2) && !decide (nI z.1 = x)) lk[i] = true := by show (decide (t < lk[i].2.2.2) && !decide (nI lk[i].1 = x)) = true; rw [decide_eq_true (show t < lk[i].2.2.2 from Nat.lt_of_not_le (fun q => z1 (nI_le q (by omega)))), decide_eq_false z2]; rfl
          have hih := ih _ _ _ _ (dInv_y hz hp hI)
          rw [take_y (p := (fun z => decide (t < z.2.2.2) && !decide (nI z.1 = x))) hz hp, List.length_append, List.length_singleton] at hih
          refine jj_iinc F dX9_dropLeases_83 rfl (iinc1 _) (by rw [hnl]; decide) ?_
          dsimp only [lq_st, lq_clr, lq_no]
          refine jj_iinc F dX9_dropLeases_86 rfl (iinc1 _) (by rw [hnl]; decide) ?_
          dsimp only [lq_st, lq_clr, lq_no]
          refine jj_goto F (tgt := 4) dX9_dropLeases_89 (by decide) ?_
          rw [quad_put]
          exact hih
  refine jj_iconst F (v := nI 0) dX9_dropLeases_0 (by decide) ?_
  refine jj_istore_n F dX9_dropLeases_1 (by rw [hnl]; decide) ?_
  dsimp only [lq_st, lq_clr, lq_no]
  refine jj_iconst F (v := nI 0) dX9_dropLeases_2 (by decide) ?_
  refine jj_istore_n F dX9_dropLeases_3 (by rw [hnl]; decide) ?_
  dsimp only [lq_st, lq_clr, lq_no]
  refine jj_eqM (quad_s M).symm ?_
  exact lo 0 (by omega) _ _ _ _ ⟨fun j z hz => by simp at hz, fun j z _ hz => hlz j z hz⟩
