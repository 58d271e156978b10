set_option maxRecDepth 100000 in
set_option maxHeartbeats 1000000 in
theorem c_X9_isPlace {l : Launch} {E : Ee} {M : Mm} {x y : Int32} : CtI l E yX9_isPlace (.code yX9_isPlace cX9_isPlace 2 (some .boolean) :: gl) ({ frames := 2, cells := 0, slots := 0, locals := 42 } : Room) M [.int x, .int y] 0 0 (fun r M2 => r = b2i (wiB x (nI 0) (nI 4) && wiB y (nI 0) (nI 2)) ∧ M2 = M) := by
  refine ctI_of (L0 := [some (.int x), some (.int y)]) (by decide) rfl (Nat.le_of_ble_eq_true rfl) rfl ?_
  intro Z hl hE hnl F ret
  subst hE
  refine jj_iload_n F dX9_isPlace_0 rfl ?_
  refine jj_callSi (na := 1) F c_X9_isUser (gl_S mk_X9_184 vw_X9_isUser) rfl rfl rfl (by decide +kernel) ⟨Nat.le_of_ble_eq_true rfl, Nat.le_of_ble_eq_true rfl⟩ rfl rfl (Nat.le_of_ble_eq_true rfl) ⟨Nat.le_of_ble_eq_true rfl, Nat.le_of_ble_eq_true rfl⟩ dX9_isPlace_1 (fun r1 M1 hp1 => ?_)
  obtain ⟨rfl, rfl⟩ := symm2 hp1
  refine jj_if_eq F (tgt := 20) dX9_isPlace_4 (by decide) (fun h4 => ?_) (fun h4 => ?_)
  · refine jj_iconst F (v := nI 0) dX9_isPlace_20 (by decide) ?_
    refine ret _ _ _ _ dX9_isPlace_21 (nar_z (Or.inl rfl)) ⟨b2i_f ?_, rfl⟩
    first
    | (rw [van_f h4]; rfl)
    | (rw [van_f h13, Bool.and_false])
  · refine jj_iload_n F dX9_isPlace_7 rfl ?_
    refine jj_iconst F (v := nI 0) dX9_isPlace_8 (by decide) ?_
    refine jj_iconst F (v := nI 2) dX9_isPlace_9 (by decide) ?_
    refine jj_callSi (na := 3) F c_X9_within (gl_S mk_X9_91 vw_X9_within) rfl rfl rfl (by decide +kernel) ⟨Nat.le_of_ble_eq_true rfl, Nat.le_of_ble_eq_true rfl⟩ rfl rfl (Nat.le_of_ble_eq_true rfl) ⟨Nat.le_of_ble_eq_true rfl, Nat.le_of_ble_eq_true rfl⟩ dX9_isPlace_10 (fun r10 M10 hp10 => ?_)
    obtain ⟨rfl, rfl⟩ := symm2 hp10
    refine jj_if_eq F (tgt := 20) dX9_isPlace_13 (by decide) (fun h13 => ?_) (fun h13 => ?_)
    · refine jj_iconst F (v := nI 0) dX9_isPlace_20 (by decide) ?_
      refine ret _ _ _ _ dX9_isPlace_21 (nar_z (Or.inl rfl)) ⟨b2i_f ?_, rfl⟩
      first
      | (rw [van_f h4]; rfl)
      | (rw [van_f h13, Bool.and_false])
    · refine jj_iconst F (v := nI 1) dX9_isPlace_16 (by decide) ?_
      refine jj_goto F (tgt := 21) dX9_isPlace_17 (by decide) ?_
      refine ret _ _ _ _ dX9_isPlace_21 (nar_z (Or.inr rfl)) ⟨b2i_t ?_, rfl⟩
      rw [van_t h4, van_t h13]
      rfl
/-- the reference's row of numbers -/
def NumR (M : Mm) (s : Ps) : Prop := M.1 478 28 = nI s.1 ∧ (∀ j, j < s.1 → M.1 501 j = nI (s.2.2 j)) ∧ M.1 501 s.1 = numI s.2.1 ∧ (∀ v, s.2.1 = some v → s.2.2 s.1 = v) ∧ pok s
def NumF (M M2 : Mm) : Prop := ∃ (x : Int32) (g : Nat → Int32), M2 = wA (wA M 478 (upd (M.1 478) 28 x)) 501 g
theorem NumF_rf (M : Mm) : NumF M M := ⟨M.1 478 28, M.1 501, by
  refine mm_ext (fun a => ?_) rfl
  by_cases h : a = 501
  · subst h; rw [wA_s]
  · rw [wA_n h]
    by_cases h2 : a = 478
    · subst h2; rw [wA_s, upd_self]
    · rw [wA_n h2]⟩
theorem NumF_w (M : Mm) (x : Int32) (g : Nat → Int32) : NumF M (wA (wA M 478 (upd (M.1 478) 28 x)) 501 g) := ⟨x, g, rfl⟩
theorem NumF_5 (M : Mm) (g : Nat → Int32) : NumF M (wA M 501 g) := ⟨M.1 478 28, g, by rw [upd_self, wA_same]⟩
theorem NumF_tr {M M2 M3 : Mm} (h : NumF M M2) (h2 : NumF M2 M3) : NumF M M3 := by
  obtain ⟨x, g, rfl⟩ := h
  obtain ⟨y, k, rfl⟩ := h2
  refine ⟨y, k, ?_⟩
  refine mm_ext (fun a => ?_) rfl
  by_cases h : a = 501
  · subst h; rw [wA_s, wA_s]
  · rw [wA_n h, wA_n h]
    by_cases h2 : a = 478
    · subst h2
      rw [wA_s, wA_s, wA_n (by decide), wA_s]
      funext b
      by_cases e : b = 28
      · simp [upd, e]
      · simp [upd, e]
    · rw [wA_n h2, wA_n h, wA_n h2, wA_n h2]
theorem RelM_num {M M2 : Mm} {a : Ab} {W : Nat} (h : RelM M a W) (hf : NumF M M2) : RelM M2 a W := by
  obtain ⟨x, g, rfl⟩ := hf
  exact RelM_ag h (fun y h1 h2 => by rw [wA_n (by omega), wA_n (by omega)]) (fun b hb => by rw [wA_1n (by omega), wA_1s]; simp [upd, show b ≠ 28 by omega]) rfl rfl h.2.2.2.2
theorem Num_n {M : Mm} {s : Ps} (h : NumR M s) : s.1 < 12 ∧ (numI s.2.1 = -1 ↔ s.2.1 = none) := ⟨h.2.2.2.2.1, numI_m1 h.2.2.2.2⟩
theorem Num_dig {M : Mm} {s : Ps} {w : Nat} (h : NumR M s) (hk : w < 16) : NumR (wA M 501 (upd (M.1 501) s.1 (nI w))) (s.1, some w, fun j => if j = s.1 then w else s.2.2 j) := by
  obtain ⟨n1, n2, n3, n4, n5⟩ := h
  refine ⟨by rw [wA_1n (by decide)]; exact n1, fun j hj => ?_, ?_, fun v hv => ?_, n5.1, fun v hv => ?_, fun j => ?_⟩
  · have hj : j < s.1 := hj
    rw [wA_1s]
    show (if j = s.1 then _ else _) = nI (if j = s.1 then w else s.2.2 j)
    rw [if_neg (by omega), if_neg (by omega)]
    exact n2 j hj
  · rw [wA_1s]; simp [upd, numI]
  · cases hv; exact if_pos rfl
  · cases hv; exact hk
  · show (if j = s.1 then w else s.2.2 j) < 16
    split
    · exact hk
    · exact n5.2.2 j
theorem Num_next {M : Mm} {s : Ps} (h : NumR M s) (h11 : s.1 < 11) (hs : ¬ s.2.1 = none) : NumR (wA (wA M 478 (upd (M.1 478) 28 (nI (s.1 + 1)))) 501 (upd ((wA M 478 (upd (M.1 478) 28 (nI (s.1 + 1)))).1 501) (s.1 + 1) (-1))) (s.1 + 1, none, s.2.2) := by
  obtain ⟨n1, n2, n3, n4, n5⟩ := h
  refine ⟨by rw [wA_1n (by decide), wA_1s]; simp [upd], fun j hj => ?_, ?_, fun v hv => (by cases hv), by show s.1 + 1 < 12; omega, fun v hv => (by cases hv), n5.2.2⟩
  · have hj : j < s.1 + 1 := hj
    rw [wA_1s]
    show (if j = s.1 + 1 then _ else _) = nI (s.2.2 j)
    rw [if_neg (by omega), wA_1n (by decide)]
    by_cases q : j = s.1
    · subst q
      cases e : s.2.1 with
      | none => exact absurd e hs
      | some v => rw [n3, e, n4 v e]; rfl
    · exact n2 j (by omega)
  · rw [wA_1s]; simp [upd, numI]
set_option maxRecDepth 100000 in
set_option maxHeartbeats 1000000 in
theorem c_X9_takes {l : Launch} {E : Ee} {M : Mm} {c : Int32} {s : Ps} (hN : NumR M s) : CtI l E yX9_takes (.code yX9_takes cX9_takes 4 (some .boolean) :: gl) ({ frames := 1, cells := 0, slots := 0, locals := 22 } : Room) M [.ref (E.2.2 478), .int c] 0 0 (fun r M2 => r = b2i (tkC c s).1 ∧ NumR M2 (tkC c s).2 ∧ NumF M M2) := by
  refine ctI_of (L0 := [some (.ref (E.2.2 478)), some (.int c), none, none]) (by decide) rfl (Nat.le_of_ble_eq_true rfl) rfl ?_
  intro Z hl hE hnl F ret
  subst hE
  have in_X9 : ∀ w ∈ u_ws RX9 TX9 33, w ∈ (.code yX9_takes cX9_takes 4 (some .boolean) :: gl) := fun w h => List.mem_cons_of_mem _ (lay_X9 w h)
  have g78 : FG Z 78 9 29 := fg_mk F (C := RX9) (T := TX9) (N := 33) in_X9 rfl (by decide) rfl (List.mem_cons_of_mem _ fk_X9_78)
  have g149 : FG Z 149 9 28 := fg_mk F (C := RX9) (T := TX9) (N := 33) in_X9 rfl (by decide) rfl (List.mem_cons_of_mem _ fk_X9_149)
  have p149 : FP Z 149 9 28 .int := fp_mk F (C := RX9) (T := TX9) (N := 33) in_X9 tyX9_ok nmX9 rfl (by decide) rfl (List.mem_cons_of_mem _ fk_X9_149) rfl (by decide +kernel)
  have kM := kd_M
  have k479 := kd_479
  have k480 := kd_480
  have k481 := kd_481
  have k482 := kd_482
  have k483 := kd_483
  have k484 := kd_484
  have k485 := kd_485
  have k486 := kd_486
  have k487 := kd_487
  have k488 := kd_488
  have k489 := kd_489
  have k490 := kd_490
  have k491 := kd_491
  have k492 := kd_492
  have k493 := kd_493
  have k494 := kd_494
  have k495 := kd_495
  have k496 := kd_496
  have k497 := kd_497
  have k498 := kd_498
  have k499 := kd_499
  have k500 := kd_500
  have k501 := kd_501
  have k502 := kd_502
  have k503 := kd_503
  obtain ⟨hs12, hm1⟩ := Num_n hN
  have n1 := hN.1
  have n3 := hN.2.2.1
  by_cases hd : nI 48 ≤ c ∧ c ≤ nI 57
  · obtain ⟨d, hd1, hd2, hd3⟩ := dig_ok hd
    have hw : wiB c (nI 48) (nI 57) = true := by unfold wiB; rw [decide_eq_true hd.1, decide_eq_true hd.2]; rfl
    have htc := tkC_d (s := s) hd hd3
    subst hd2
    cases hs : s.2.1 with
    | none =>
      rw [hs] at n3
      have n3 : M.1 501 s.1 = -1 := n3
      have ht := htc.trans (tk_n hs)
      refine jj_aload_n F dX9_takes_0 rfl ?_
      refine jj_getr F g78 (by assumption) (by rfl) dX9_takes_1 ?_
      refine jj_aload_n F dX9_takes_4 rfl ?_
      refine jj_geti F g149 (by assumption) (by rfl) dX9_takes_5 ?_
      rw [n1]
      refine jj_iald F (by assumption) rfl (by omega) dX9_takes_8 ?_
      rw [n3]
      refine jj_istore_n F dX9_takes_9 (by rw [hnl]; decide) ?_
      dsimp only [lq_st, lq_clr, lq_no]
      refine jj_iload_n F dX9_takes_10 rfl ?_
      refine jj_bipush F (v := nI 48) dX9_takes_11 (by decide) ?_
      refine jj_bipush F (v := nI 57) dX9_takes_13 (by decide) ?_
      refine jj_callSi (na := 3) F c_X9_within (gl_S mk_X9_91 vw_X9_within) rfl rfl rfl (by decide +kernel) ⟨Nat.le_of_ble_eq_true rfl, Nat.le_of_ble_eq_true rfl⟩ rfl rfl (Nat.le_of_ble_eq_true rfl) ⟨Nat.le_of_ble_eq_true rfl, Nat.le_of_ble_eq_true rfl⟩ dX9_takes_15 (fun r15 M15 hp15 => ?_)
      obtain ⟨rfl, rfl⟩ := symm2 hp15
      refine jj_if_eq F (tgt := 77) dX9_takes_18 (by decide) (fun h9 => absurd h9 (by rw [hw]; decide)) (fun _ => ?_)
      refine jj_iload_n F dX9_takes_21 rfl ?_
      refine jj_iconst F (v := -1) dX9_takes_22 (by decide) ?_
      refine jj_icmp_eq F (tgt := 37) dX9_takes_23 (by decide) (fun _ => ?_) (fun h9 => absurd (rfl) h9)
      refine jj_iconst F (v := nI 1) dX9_takes_37 (by decide) ?_
      refine jj_goto F (tgt := 42) dX9_takes_38 (by decide) ?_
      refine jj_istore_n F dX9_takes_42 (by rw [hnl]; decide) ?_
      dsimp only [lq_st, lq_clr, lq_no]
      refine jj_iload_n F dX9_takes_43 rfl ?_
      refine jj_if_eq F (tgt := 75) dX9_takes_44 (by decide) (fun h9 => absurd h9 (by decide)) (fun _ => ?_)
      refine jj_aload_n F dX9_takes_47 rfl ?_
      refine jj_getr F g78 (by assumption) (by rfl) dX9_takes_48 ?_
      refine jj_aload_n F dX9_takes_51 rfl ?_
      refine jj_geti F g149 (by assumption) (by rfl) dX9_takes_52 ?_
      rw [n1]
      refine jj_iload_n F dX9_takes_55 rfl ?_
      refine jj_iconst F (v := -1) dX9_takes_56 (by decide) ?_
      refine jj_icmp_ne F (tgt := 67) dX9_takes_57 (by decide) (fun h9 => absurd h9 (fun h9 => h9 rfl)) (fun _ => ?_)
      refine jj_iload_n F dX9_takes_60 rfl ?_
      refine jj_bipush F (v := nI 48) dX9_takes_61 (by decide) ?_
      refine jj_isub F dX9_takes_63 ?_
      rw [show nI (48 + d) - nI 48 = nI d by rw [pk_sub (by omega), show 48 + d - 48 = d by omega]]
      refine jj_goto F (tgt := 74) dX9_takes_64 (by decide) ?_
      refine jj_iast F (by assumption) rfl (by omega) dX9_takes_74 ?_
      refine jj_iload_n F dX9_takes_75 rfl ?_
      refine ret _ _ _ _ dX9_takes_76 (by first | rfl | exact nar_z (by first | exact Or.inl rfl | exact Or.inr rfl | exact b2i_01 _ | assumption)) ?_
      refine ⟨by rw [ht]; rfl, ?_, NumF_5 _ _⟩
      rw [ht]
      exact Num_dig hN (by omega)
    | some v =>
      have hv16 := hN.2.2.2.2.2.1 v hs
      rw [hs] at n3
      have n3 : M.1 501 s.1 = nI v := n3
      have hmv : ¬ nI v = -1 := nI_m1 (by omega)
      by_cases hv1 : v = 1 ∧ d < 6
      · obtain ⟨rfl, hd6⟩ := hv1
        have ht := htc.trans (tk_1 hs hd6)
        refine jj_aload_n F dX9_takes_0 rfl ?_
        refine jj_getr F g78 (by assumption) (by rfl) dX9_takes_1 ?_
        refine jj_aload_n F dX9_takes_4 rfl ?_
        refine jj_geti F g149 (by assumption) (by rfl) dX9_takes_5 ?_
        rw [n1]
        refine jj_iald F (by assumption) rfl (by omega) dX9_takes_8 ?_
        rw [n3]
        refine jj_istore_n F dX9_takes_9 (by rw [hnl]; decide) ?_
        dsimp only [lq_st, lq_clr, lq_no]
        refine jj_iload_n F dX9_takes_10 rfl ?_
        refine jj_bipush F (v := nI 48) dX9_takes_11 (by decide) ?_
        refine jj_bipush F (v := nI 57) dX9_takes_13 (by decide) ?_
        refine jj_callSi (na := 3) F c_X9_within (gl_S mk_X9_91 vw_X9_within) rfl rfl rfl (by decide +kernel) ⟨Nat.le_of_ble_eq_true rfl, Nat.le_of_ble_eq_true rfl⟩ rfl rfl (Nat.le_of_ble_eq_true rfl) ⟨Nat.le_of_ble_eq_true rfl, Nat.le_of_ble_eq_true rfl⟩ dX9_takes_15 (fun r15 M15 hp15 => ?_)
        obtain ⟨rfl, rfl⟩ := symm2 hp15
        refine jj_if_eq F (tgt := 77) dX9_takes_18 (by decide) (fun h9 => absurd h9 (by rw [hw]; decide)) (fun _ => ?_)
        refine jj_iload_n F dX9_takes_21 rfl ?_
        refine jj_iconst F (v := -1) dX9_takes_22 (by decide) ?_
        refine jj_icmp_eq F (tgt := 37) dX9_takes_23 (by decide) (fun h9 => absurd h9 (hmv)) (fun _ => ?_)
        refine jj_iload_n F dX9_takes_26 rfl ?_
        refine jj_iconst F (v := nI 1) dX9_takes_27 (by decide) ?_
        refine jj_icmp_ne F (tgt := 41) dX9_takes_28 (by decide) (fun h9 => absurd h9 (fun h9 => h9 rfl)) (fun _ => ?_)
        refine jj_iload_n F dX9_takes_31 rfl ?_
        refine jj_bipush F (v := nI 53) dX9_takes_32 (by decide) ?_
        refine jj_icmp_gt F (tgt := 41) dX9_takes_34 (by decide) (fun h9 => absurd h9 (nI_nlt (by omega) (by omega))) (fun _ => ?_)
        refine jj_iconst F (v := nI 1) dX9_takes_37 (by decide) ?_
        refine jj_goto F (tgt := 42) dX9_takes_38 (by decide) ?_
        refine jj_istore_n F dX9_takes_42 (by rw [hnl]; decide) ?_
        dsimp only [lq_st, lq_clr, lq_no]
        refine jj_iload_n F dX9_takes_43 rfl ?_
        refine jj_if_eq F (tgt := 75) dX9_takes_44 (by decide) (fun h9 => absurd h9 (by decide)) (fun _ => ?_)
        refine jj_aload_n F dX9_takes_47 rfl ?_
        refine jj_getr F g78 (by assumption) (by rfl) dX9_takes_48 ?_
        refine jj_aload_n F dX9_takes_51 rfl ?_
        refine jj_geti F g149 (by assumption) (by rfl) dX9_takes_52 ?_
        rw [n1]
        refine jj_iload_n F dX9_takes_55 rfl ?_
        refine jj_iconst F (v := -1) dX9_takes_56 (by decide) ?_
        refine jj_icmp_ne F (tgt := 67) dX9_takes_57 (by decide) (fun _ => ?_) (fun h9 => absurd h9 (hmv))
        refine jj_bipush F (v := nI 10) dX9_takes_67 (by decide) ?_
        refine jj_iload_n F dX9_takes_69 rfl ?_
        refine jj_iadd F dX9_takes_70 ?_
        refine jj_bipush F (v := nI 48) dX9_takes_71 (by decide) ?_
        refine jj_isub F dX9_takes_73 ?_
        rw [show nI 10 + nI (48 + d) - nI 48 = nI (10 + d) by rw [nI_add, pk_sub (by omega), show 10 + (48 + d) - 48 = 10 + d by omega]]
        refine jj_iast F (by assumption) rfl (by omega) dX9_takes_74 ?_
        refine jj_iload_n F dX9_takes_75 rfl ?_
        refine ret _ _ _ _ dX9_takes_76 (by first | rfl | exact nar_z (by first | exact Or.inl rfl | exact Or.inr rfl | exact b2i_01 _ | assumption)) ?_
        refine ⟨by rw [ht]; rfl, ?_, NumF_5 _ _⟩
        rw [ht]
        exact Num_dig hN (by omega)
      · have ht := htc.trans (show tkD d s = (false, s) by unfold tkD; rw [hs]; exact if_neg hv1)
        refine jj_aload_n F dX9_takes_0 rfl ?_
        refine jj_getr F g78 (by assumption) (by rfl) dX9_takes_1 ?_
        refine jj_aload_n F dX9_takes_4 rfl ?_
        refine jj_geti F g149 (by assumption) (by rfl) dX9_takes_5 ?_
        rw [n1]
        refine jj_iald F (by assumption) rfl (by omega) dX9_takes_8 ?_
        rw [n3]
        refine jj_istore_n F dX9_takes_9 (by rw [hnl]; decide) ?_
        dsimp only [lq_st, lq_clr, lq_no]
        refine jj_iload_n F dX9_takes_10 rfl ?_
        refine jj_bipush F (v := nI 48) dX9_takes_11 (by decide) ?_
        refine jj_bipush F (v := nI 57) dX9_takes_13 (by decide) ?_
        refine jj_callSi (na := 3) F c_X9_within (gl_S mk_X9_91 vw_X9_within) rfl rfl rfl (by decide +kernel) ⟨Nat.le_of_ble_eq_true rfl, Nat.le_of_ble_eq_true rfl⟩ rfl rfl (Nat.le_of_ble_eq_true rfl) ⟨Nat.le_of_ble_eq_true rfl, Nat.le_of_ble_eq_true rfl⟩ dX9_takes_15 (fun r15 M15 hp15 => ?_)
        obtain ⟨rfl, rfl⟩ := symm2 hp15
        refine jj_if_eq F (tgt := 77) dX9_takes_18 (by decide) (fun h9 => absurd h9 (by rw [hw]; decide)) (fun _ => ?_)
        refine jj_iload_n F dX9_takes_21 rfl ?_
        refine jj_iconst F (v := -1) dX9_takes_22 (by decide) ?_
        refine jj_icmp_eq F (tgt := 37) dX9_takes_23 (by decide) (fun h23 => ?_) (fun h23 => ?_)
        · exfalso
          first
          | exact hmv h23
          | (have e1 := (nI_eq (by omega) (by omega)).mp h28; exact hv1 ⟨e1, Nat.lt_of_not_le (fun q => h34 (nI_lt (by omega) (by omega)))⟩)
        · refine jj_iload_n F dX9_takes_26 rfl ?_
          refine jj_iconst F (v := nI 1) dX9_takes_27 (by decide) ?_
          refine jj_icmp_ne F (tgt := 41) dX9_takes_28 (by decide) (fun h28 => ?_) (fun h28 => ?_)
          · refine jj_iconst F (v := nI 0) dX9_takes_41 (by decide) ?_
            refine jj_istore_n F dX9_takes_42 (by rw [hnl]; decide) ?_
            dsimp only [lq_st, lq_clr, lq_no]
            refine jj_iload_n F dX9_takes_43 rfl ?_
            refine jj_if_eq F (tgt := 75) dX9_takes_44 (by decide) (fun _ => ?_) (fun h9 => absurd (rfl) h9)
            refine jj_iload_n F dX9_takes_75 rfl ?_
            refine ret _ _ _ _ dX9_takes_76 (by first | rfl | exact nar_z (by first | exact Or.inl rfl | exact Or.inr rfl | exact b2i_01 _ | assumption)) ?_
            refine ⟨?_, ?_, NumF_rf _⟩
            · rw [ht]; rfl
            · rw [ht]; exact hN
          · refine jj_iload_n F dX9_takes_31 rfl ?_
            refine jj_bipush F (v := nI 53) dX9_takes_32 (by decide) ?_
            refine jj_icmp_gt F (tgt := 41) dX9_takes_34 (by decide) (fun h34 => ?_) (fun h34 => ?_)
            · refine jj_iconst F (v := nI 0) dX9_takes_41 (by decide) ?_
              refine jj_istore_n F dX9_takes_42 (by rw [hnl]; decide) ?_
              dsimp only [lq_st, lq_clr, lq_no]
              refine jj_iload_n F dX9_takes_43 rfl ?_
              refine jj_if_eq F (tgt := 75) dX9_takes_44 (by decide) (fun _ => ?_) (fun h9 => absurd (rfl) h9)
              refine jj_iload_n F dX9_takes_75 rfl ?_
              refine ret _ _ _ _ dX9_takes_76 (by first | rfl | exact nar_z (by first | exact Or.inl rfl | exact Or.inr rfl | exact b2i_01 _ | assumption)) ?_
              refine ⟨?_, ?_, NumF_rf _⟩
              · rw [ht]; rfl
              · rw [ht]; exact hN
            · exfalso
              first
              | exact hmv h23
              | (have e1 := (nI_eq (by omega) (by omega)).mp h28; exact hv1 ⟨e1, Nat.lt_of_not_le (fun q => h34 (nI_lt (by omega) (by omega)))⟩)
  · have hw : wiB c (nI 48) (nI 57) = false := by
      unfold wiB
      rw [Bool.and_eq_false_iff, decide_eq_false_iff_not, decide_eq_false_iff_not]
      by_cases q : nI 48 ≤ c
      · exact Or.inr (fun z => hd ⟨q, z⟩)
      · exact Or.inl q
    cases hs : s.2.1 with
    | none =>
      rw [hs] at n3
      have n3 : M.1 501 s.1 = -1 := n3
      have ht := tkC_n hd hs
      refine jj_aload_n F dX9_takes_0 rfl ?_
      refine jj_getr F g78 (by assumption) (by rfl) dX9_takes_1 ?_
      refine jj_aload_n F dX9_takes_4 rfl ?_
      refine jj_geti F g149 (by assumption) (by rfl) dX9_takes_5 ?_
      rw [n1]
      refine jj_iald F (by assumption) rfl (by omega) dX9_takes_8 ?_
      rw [n3]
      refine jj_istore_n F dX9_takes_9 (by rw [hnl]; decide) ?_
      dsimp only [lq_st, lq_clr, lq_no]
      refine jj_iload_n F dX9_takes_10 rfl ?_
      refine jj_bipush F (v := nI 48) dX9_takes_11 (by decide) ?_
      refine jj_bipush F (v := nI 57) dX9_takes_13 (by decide) ?_
      refine jj_callSi (na := 3) F c_X9_within (gl_S mk_X9_91 vw_X9_within) rfl rfl rfl (by decide +kernel) ⟨Nat.le_of_ble_eq_true rfl, Nat.le_of_ble_eq_true rfl⟩ rfl rfl (Nat.le_of_ble_eq_true rfl) ⟨Nat.le_of_ble_eq_true rfl, Nat.le_of_ble_eq_true rfl⟩ dX9_takes_15 (fun r15 M15 hp15 => ?_)
      obtain ⟨rfl, rfl⟩ := symm2 hp15
      refine jj_if_eq F (tgt := 77) dX9_takes_18 (by decide) (fun _ => ?_) (fun h9 => absurd (by rw [hw]; rfl) h9)
      refine jj_iload_n F dX9_takes_77 rfl ?_
      refine jj_iconst F (v := -1) dX9_takes_78 (by decide) ?_
      refine jj_icmp_eq F (tgt := 119) dX9_takes_79 (by decide) (fun _ => ?_) (fun h9 => absurd (rfl) h9)
      refine jj_iconst F (v := nI 0) dX9_takes_119 (by decide) ?_
      refine jj_istore_n F dX9_takes_120 (by rw [hnl]; decide) ?_
      dsimp only [lq_st, lq_clr, lq_no]
      refine jj_iload_n F dX9_takes_121 rfl ?_
      refine jj_if_eq F (tgt := 145) dX9_takes_122 (by decide) (fun _ => ?_) (fun h9 => absurd (rfl) h9)
      refine jj_iload_n F dX9_takes_145 rfl ?_
      refine ret _ _ _ _ dX9_takes_146 (by first | rfl | exact nar_z (by first | exact Or.inl rfl | exact Or.inr rfl | exact b2i_01 _ | assumption)) ?_
      refine ⟨?_, ?_, NumF_rf _⟩
      · rw [ht]; rfl
      · rw [ht]; exact hN
    | some v =>
      have hv16 := hN.2.2.2.2.2.1 v hs
      have hsn : ¬ s.2.1 = none := by rw [hs]; intro z; cases z
      rw [hs] at n3
      have n3 : M.1 501 s.1 = nI v := n3
      have hmv : ¬ nI v = -1 := nI_m1 (by omega)
      by_cases hc : (c = nI 44 ∧ s.1 % 2 = 0) ∨ (c = nI 45 ∧ s.1 % 2 = 1 ∧ s.1 < 11)
      · have ht := tkC_y hd hsn hc
        have h11 : s.1 < 11 := by
          rcases hc with ⟨-, q⟩ | ⟨-, -, q⟩
          · omega
          · exact q
        rcases hc with ⟨hcc, hpar⟩ | ⟨hcc, hpar, -⟩
        · refine jj_aload_n F dX9_takes_0 rfl ?_
          refine jj_getr F g78 (by assumption) (by rfl) dX9_takes_1 ?_
          refine jj_aload_n F dX9_takes_4 rfl ?_
          refine jj_geti F g149 (by assumption) (by rfl) dX9_takes_5 ?_
          rw [n1]
          refine jj_iald F (by assumption) rfl (by omega) dX9_takes_8 ?_
          rw [n3]
          refine jj_istore_n F dX9_takes_9 (by rw [hnl]; decide) ?_
          dsimp only [lq_st, lq_clr, lq_no]
          refine jj_iload_n F dX9_takes_10 rfl ?_
          refine jj_bipush F (v := nI 48) dX9_takes_11 (by decide) ?_
          refine jj_bipush F (v := nI 57) dX9_takes_13 (by decide) ?_
          refine jj_callSi (na := 3) F c_X9_within (gl_S mk_X9_91 vw_X9_within) rfl rfl rfl (by decide +kernel) ⟨Nat.le_of_ble_eq_true rfl, Nat.le_of_ble_eq_true rfl⟩ rfl rfl (Nat.le_of_ble_eq_true rfl) ⟨Nat.le_of_ble_eq_true rfl, Nat.le_of_ble_eq_true rfl⟩ dX9_takes_15 (fun r15 M15 hp15 => ?_)
          obtain ⟨rfl, rfl⟩ := symm2 hp15
          refine jj_if_eq F (tgt := 77) dX9_takes_18 (by decide) (fun _ => ?_) (fun h9 => absurd (by rw [hw]; rfl) h9)
          refine jj_iload_n F dX9_takes_77 rfl ?_
          refine jj_iconst F (v := -1) dX9_takes_78 (by decide) ?_
          refine jj_icmp_eq F (tgt := 119) dX9_takes_79 (by decide) (fun h9 => absurd h9 (hmv)) (fun _ => ?_)
          refine jj_aload_n F dX9_takes_82 rfl ?_
          refine jj_geti F g149 (by assumption) (by rfl) dX9_takes_83 ?_
          rw [n1]
          refine jj_iconst F (v := nI 2) dX9_takes_86 (by decide) ?_
          refine jj_irem F dX9_takes_87 (by first | decide | assumption) ?_
          rw [show nI s.1 - nI s.1 / nI 2 * nI 2 = nI (s.1 % 2) from pk_rem (by omega) (by omega) (by omega)]
          refine jj_if_ne F (tgt := 100) dX9_takes_88 (by decide) (fun h9 => absurd h9 (fun h9 => h9 (by rw [hpar]; rfl))) (fun _ => ?_)
          refine jj_iload_n F dX9_takes_91 rfl ?_
          refine jj_bipush F (v := nI 44) dX9_takes_92 (by decide) ?_
          refine jj_icmp_ne F (tgt := 119) dX9_takes_94 (by decide) (fun h9 => absurd h9 (fun h9 => h9 hcc)) (fun _ => ?_)
          refine jj_goto F (tgt := 115) dX9_takes_97 (by decide) ?_
          refine jj_iconst F (v := nI 1) dX9_takes_115 (by decide) ?_
          refine jj_goto F (tgt := 120) dX9_takes_116 (by decide) ?_
          refine jj_istore_n F dX9_takes_120 (by rw [hnl]; decide) ?_
          dsimp only [lq_st, lq_clr, lq_no]
          refine jj_iload_n F dX9_takes_121 rfl ?_
          refine jj_if_eq F (tgt := 145) dX9_takes_122 (by decide) (fun h9 => absurd h9 (by decide)) (fun _ => ?_)
          refine jj_aload_n F dX9_takes_125 rfl ?_
          refine jj_dup F dX9_takes_126 rfl ?_
          refine jj_geti F g149 (by assumption) (by rfl) dX9_takes_127 ?_
          rw [n1]
          refine jj_iconst F (v := nI 1) dX9_takes_130 (by decide) ?_
          refine jj_iadd F dX9_takes_131 ?_
          rw [nI_add]
          refine jj_puti F p149 (by assumption) (by rfl) dX9_takes_132 ?_
          refine jj_aload_n F dX9_takes_135 rfl ?_
          refine jj_getr F g78 (by assumption) (by rfl) dX9_takes_136 ?_
          refine jj_aload_n F dX9_takes_139 rfl ?_
          refine jj_geti F g149 (by assumption) (by rfl) dX9_takes_140 ?_
          rw [show (wA M 478 (upd (M.1 478) 28 (nI (s.1 + 1)))).1 478 28 = nI (s.1 + 1) by rw [wA_1s]; simp [upd]]
          refine jj_iconst F (v := -1) dX9_takes_143 (by decide) ?_
          refine jj_iast F (by assumption) rfl (by omega) dX9_takes_144 ?_
          refine jj_iload_n F dX9_takes_145 rfl ?_
          refine ret _ _ _ _ dX9_takes_146 (by first | rfl | exact nar_z (by first | exact Or.inl rfl | exact Or.inr rfl | exact b2i_01 _ | assumption)) ?_
          refine ⟨by rw [ht]; rfl, ?_, NumF_w _ _ _⟩
          rw [ht]
          exact Num_next hN h11 hsn
        · refine jj_aload_n F dX9_takes_0 rfl ?_
          refine jj_getr F g78 (by assumption) (by rfl) dX9_takes_1 ?_
          refine jj_aload_n F dX9_takes_4 rfl ?_
          refine jj_geti F g149 (by assumption) (by rfl) dX9_takes_5 ?_
          rw [n1]
          refine jj_iald F (by assumption) rfl (by omega) dX9_takes_8 ?_
          rw [n3]
          refine jj_istore_n F dX9_takes_9 (by rw [hnl]; decide) ?_
          dsimp only [lq_st, lq_clr, lq_no]
          refine jj_iload_n F dX9_takes_10 rfl ?_
          refine jj_bipush F (v := nI 48) dX9_takes_11 (by decide) ?_
          refine jj_bipush F (v := nI 57) dX9_takes_13 (by decide) ?_
          refine jj_callSi (na := 3) F c_X9_within (gl_S mk_X9_91 vw_X9_within) rfl rfl rfl (by decide +kernel) ⟨Nat.le_of_ble_eq_true rfl, Nat.le_of_ble_eq_true rfl⟩ rfl rfl (Nat.le_of_ble_eq_true rfl) ⟨Nat.le_of_ble_eq_true rfl, Nat.le_of_ble_eq_true rfl⟩ dX9_takes_15 (fun r15 M15 hp15 => ?_)
          obtain ⟨rfl, rfl⟩ := symm2 hp15
          refine jj_if_eq F (tgt := 77) dX9_takes_18 (by decide) (fun _ => ?_) (fun h9 => absurd (by rw [hw]; rfl) h9)
          refine jj_iload_n F dX9_takes_77 rfl ?_
          refine jj_iconst F (v := -1) dX9_takes_78 (by decide) ?_
          refine jj_icmp_eq F (tgt := 119) dX9_takes_79 (by decide) (fun h9 => absurd h9 (hmv)) (fun _ => ?_)
          refine jj_aload_n F dX9_takes_82 rfl ?_
          refine jj_geti F g149 (by assumption) (by rfl) dX9_takes_83 ?_
          rw [n1]
          refine jj_iconst F (v := nI 2) dX9_takes_86 (by decide) ?_
          refine jj_irem F dX9_takes_87 (by first | decide | assumption) ?_
          rw [show nI s.1 - nI s.1 / nI 2 * nI 2 = nI (s.1 % 2) from pk_rem (by omega) (by omega) (by omega)]
          refine jj_if_ne F (tgt := 100) dX9_takes_88 (by decide) (fun _ => ?_) (fun h9 => absurd h9 (by rw [hpar]; decide))
          refine jj_iload_n F dX9_takes_100 rfl ?_
          refine jj_bipush F (v := nI 45) dX9_takes_101 (by decide) ?_
          refine jj_icmp_ne F (tgt := 119) dX9_takes_103 (by decide) (fun h9 => absurd h9 (fun h9 => h9 hcc)) (fun _ => ?_)
          refine jj_aload_n F dX9_takes_106 rfl ?_
          refine jj_geti F g149 (by assumption) (by rfl) dX9_takes_107 ?_
          rw [n1]
          refine jj_bipush F (v := nI 11) dX9_takes_110 (by decide) ?_
          refine jj_icmp_ge F (tgt := 119) dX9_takes_112 (by decide) (fun h9 => absurd h9 (nI_ge (by omega) (by omega))) (fun _ => ?_)
          refine jj_iconst F (v := nI 1) dX9_takes_115 (by decide) ?_
          refine jj_goto F (tgt := 120) dX9_takes_116 (by decide) ?_
          refine jj_istore_n F dX9_takes_120 (by rw [hnl]; decide) ?_
          dsimp only [lq_st, lq_clr, lq_no]
          refine jj_iload_n F dX9_takes_121 rfl ?_
          refine jj_if_eq F (tgt := 145) dX9_takes_122 (by decide) (fun h9 => absurd h9 (by decide)) (fun _ => ?_)
          refine jj_aload_n F dX9_takes_125 rfl ?_
          refine jj_dup F dX9_takes_126 rfl ?_
          refine jj_geti F g149 (by assumption) (by rfl) dX9_takes_127 ?_
          rw [n1]
          refine jj_iconst F (v := nI 1) dX9_takes_130 (by decide) ?_
          refine jj_iadd F dX9_takes_131 ?_
          rw [nI_add]
          refine jj_puti F p149 (by assumption) (by rfl) dX9_takes_132 ?_
          refine jj_aload_n F dX9_takes_135 rfl ?_
          refine jj_getr F g78 (by assumption) (by rfl) dX9_takes_136 ?_
          refine jj_aload_n F dX9_takes_139 rfl ?_
          refine jj_geti F g149 (by assumption) (by rfl) dX9_takes_140 ?_
          rw [show (wA M 478 (upd (M.1 478) 28 (nI (s.1 + 1)))).1 478 28 = nI (s.1 + 1) by rw [wA_1s]; simp [upd]]
          refine jj_iconst F (v := -1) dX9_takes_143 (by decide) ?_
          refine jj_iast F (by assumption) rfl (by omega) dX9_takes_144 ?_
          refine jj_iload_n F dX9_takes_145 rfl ?_
          refine ret _ _ _ _ dX9_takes_146 (by first | rfl | exact nar_z (by first | exact Or.inl rfl | exact Or.inr rfl | exact b2i_01 _ | assumption)) ?_
          refine ⟨by rw [ht]; rfl, ?_, NumF_w _ _ _⟩
          rw [ht]
          exact Num_next hN h11 hsn
      · have ht := tkC_f hd hc
        refine jj_aload_n F dX9_takes_0 rfl ?_
        refine jj_getr F g78 (by assumption) (by rfl) dX9_takes_1 ?_
        refine jj_aload_n F dX9_takes_4 rfl ?_
        refine jj_geti F g149 (by assumption) (by rfl) dX9_takes_5 ?_
        rw [n1]
        refine jj_iald F (by assumption) rfl (by omega) dX9_takes_8 ?_
        rw [n3]
        refine jj_istore_n F dX9_takes_9 (by rw [hnl]; decide) ?_
        dsimp only [lq_st, lq_clr, lq_no]
        refine jj_iload_n F dX9_takes_10 rfl ?_
        refine jj_bipush F (v := nI 48) dX9_takes_11 (by decide) ?_
        refine jj_bipush F (v := nI 57) dX9_takes_13 (by decide) ?_
        refine jj_callSi (na := 3) F c_X9_within (gl_S mk_X9_91 vw_X9_within) rfl rfl rfl (by decide +kernel) ⟨Nat.le_of_ble_eq_true rfl, Nat.le_of_ble_eq_true rfl⟩ rfl rfl (Nat.le_of_ble_eq_true rfl) ⟨Nat.le_of_ble_eq_true rfl, Nat.le_of_ble_eq_true rfl⟩ dX9_takes_15 (fun r15 M15 hp15 => ?_)
        obtain ⟨rfl, rfl⟩ := symm2 hp15
        refine jj_if_eq F (tgt := 77) dX9_takes_18 (by decide) (fun _ => ?_) (fun h9 => absurd (by rw [hw]; rfl) h9)
        refine jj_iload_n F dX9_takes_77 rfl ?_
        refine jj_iconst F (v := -1) dX9_takes_78 (by decide) ?_
        refine jj_icmp_eq F (tgt := 119) dX9_takes_79 (by decide) (fun h9 => absurd h9 (hmv)) (fun _ => ?_)
        refine jj_aload_n F dX9_takes_82 rfl ?_
        refine jj_geti F g149 (by assumption) (by rfl) dX9_takes_83 ?_
        rw [n1]
        refine jj_iconst F (v := nI 2) dX9_takes_86 (by decide) ?_
        refine jj_irem F dX9_takes_87 (by first | decide | assumption) ?_
        rw [show nI s.1 - nI s.1 / nI 2 * nI 2 = nI (s.1 % 2) from pk_rem (by omega) (by omega) (by omega)]
        refine jj_if_ne F (tgt := 100) dX9_takes_88 (by decide) (fun h88 => ?_) (fun h88 => ?_)
        · refine jj_iload_n F dX9_takes_100 rfl ?_
          refine jj_bipush F (v := nI 45) dX9_takes_101 (by decide) ?_
          refine jj_icmp_ne F (tgt := 119) dX9_takes_103 (by decide) (fun h103 => ?_) (fun h103 => ?_)
          · refine jj_iconst F (v := nI 0) dX9_takes_119 (by decide) ?_
            refine jj_istore_n F dX9_takes_120 (by rw [hnl]; decide) ?_
            dsimp only [lq_st, lq_clr, lq_no]
            refine jj_iload_n F dX9_takes_121 rfl ?_
            refine jj_if_eq F (tgt := 145) dX9_takes_122 (by decide) (fun _ => ?_) (fun h9 => absurd (rfl) h9)
            refine jj_iload_n F dX9_takes_145 rfl ?_
            refine ret _ _ _ _ dX9_takes_146 (by first | rfl | exact nar_z (by first | exact Or.inl rfl | exact Or.inr rfl | exact b2i_01 _ | assumption)) ?_
            refine ⟨?_, ?_, NumF_rf _⟩
            · rw [ht]; rfl
            · rw [ht]; exact hN
          · refine jj_aload_n F dX9_takes_106 rfl ?_
            refine jj_geti F g149 (by assumption) (by rfl) dX9_takes_107 ?_
            rw [n1]
            refine jj_bipush F (v := nI 11) dX9_takes_110 (by decide) ?_
            refine jj_icmp_ge F (tgt := 119) dX9_takes_112 (by decide) (fun h112 => ?_) (fun h112 => ?_)
            · refine jj_iconst F (v := nI 0) dX9_takes_119 (by decide) ?_
              refine jj_istore_n F dX9_takes_120 (by rw [hnl]; decide) ?_
              dsimp only [lq_st, lq_clr, lq_no]
              refine jj_iload_n F dX9_takes_121 rfl ?_
              refine jj_if_eq F (tgt := 145) dX9_takes_122 (by decide) (fun _ => ?_) (fun h9 => absurd (rfl) h9)
              refine jj_iload_n F dX9_takes_145 rfl ?_
              refine ret _ _ _ _ dX9_takes_146 (by first | rfl | exact nar_z (by first | exact Or.inl rfl | exact Or.inr rfl | exact b2i_01 _ | assumption)) ?_
              refine ⟨?_, ?_, NumF_rf _⟩
              · rw [ht]; rfl
              · rw [ht]; exact hN
            · exfalso
              first
              | (have e1 : s.1 % 2 = 0 := (nI_eq (b := 0) (by omega) (by omega)).mp h88; exact hc (Or.inl ⟨h94, e1⟩))
              | (have e1 : ¬ s.1 % 2 = 0 := fun q => h88 (by rw [q]; rfl); exact hc (Or.inr ⟨h103, by omega, Nat.lt_of_not_le (fun q => h112 (nI_le q (by omega)))⟩))
        · refine jj_iload_n F dX9_takes_91 rfl ?_
          refine jj_bipush F (v := nI 44) dX9_takes_92 (by decide) ?_
          refine jj_icmp_ne F (tgt := 119) dX9_takes_94 (by decide) (fun h94 => ?_) (fun h94 => ?_)
          · refine jj_iconst F (v := nI 0) dX9_takes_119 (by decide) ?_
            refine jj_istore_n F dX9_takes_120 (by rw [hnl]; decide) ?_
            dsimp only [lq_st, lq_clr, lq_no]
            refine jj_iload_n F dX9_takes_121 rfl ?_
            refine jj_if_eq F (tgt := 145) dX9_takes_122 (by decide) (fun _ => ?_) (fun h9 => absurd (rfl) h9)
            refine jj_iload_n F dX9_takes_145 rfl ?_
            refine ret _ _ _ _ dX9_takes_146 (by first | rfl | exact nar_z (by first | exact Or.inl rfl | exact Or.inr rfl | exact b2i_01 _ | assumption)) ?_
            refine ⟨?_, ?_, NumF_rf _⟩
            · rw [ht]; rfl
            · rw [ht]; exact hN
          · refine jj_goto F (tgt := 115) dX9_takes_97 (by decide) ?_
            exfalso
            first
            | (have e1 : s.1 % 2 = 0 := (nI_eq (b := 0) (by omega) (by omega)).mp h88; exact hc (Or.inl ⟨h94, e1⟩))
            | (have e1 : ¬ s.1 % 2 = 0 := fun q => h88 (by rw [q]; rfl); exact hc (Or.inr ⟨h103, by omega, Nat.lt_of_not_le (fun q => h112 (nI_le q (by omega)))⟩))
theorem NumF_c {M M2 : Mm} (h : NumF M M2) {k b : Nat} (hk : k ≠ 501) (hb : k = 478 → b ≠ 28) : M2.1 k b = M.1 k b := by
  obtain ⟨x, g, rfl⟩ := h
  rw [wA_1n hk]
  by_cases q : k = 478
  · subst q; rw [wA_1s]; simp [upd, hb rfl]
  · rw [wA_1n q]
theorem NumF_2 {M M2 : Mm} (h : NumF M M2) : M2.2 = M.2 := by obtain ⟨x, g, rfl⟩ := h; rfl
set_option maxRecDepth 100000 in
set_option maxHeartbeats 1000000 in
theorem c_X9_read {l : Launch} {E : Ee} {M : Mm} {len : Nat} (hlen : M.1 478 22 = nI len) (h40 : len ≤ 40) : CtI l E yX9_read (.code yX9_read cX9_read 2 (some .int) :: gl) ({ frames := 2, cells := 0, slots := 0, locals := 45 } : Room) M [.ref (E.2.2 478)] 0 0 (fun r M2 => r = nI (rdF (M.1 496) len 0 (0, none, fun _ => 0)).1 ∧ NumR M2 (rdF (M.1 496) len 0 (0, none, fun _ => 0)).2 ∧ NumF M M2) := by
  refine ctI_of (L0 := [some (.ref (E.2.2 478)), none]) (by decide) rfl (Nat.le_of_ble_eq_true rfl) rfl ?_
  intro Z hl hE hnl F ret
  subst hE
  have in_X9 : ∀ w ∈ u_ws RX9 TX9 33, w ∈ (.code yX9_read cX9_read 2 (some .int) :: gl) := fun w h => List.mem_cons_of_mem _ (lay_X9 w h)
  have g63 : FG Z 63 9 23 := fg_mk F (C := RX9) (T := TX9) (N := 33) in_X9 rfl (by decide) rfl (List.mem_cons_of_mem _ fk_X9_63)
  have g78 : FG Z 78 9 29 := fg_mk F (C := RX9) (T := TX9) (N := 33) in_X9 rfl (by decide) rfl (List.mem_cons_of_mem _ fk_X9_78)
  have g146 : FG Z 146 9 22 := fg_mk F (C := RX9) (T := TX9) (N := 33) in_X9 rfl (by decide) rfl (List.mem_cons_of_mem _ fk_X9_146)
  have p149 : FP Z 149 9 28 .int := fp_mk F (C := RX9) (T := TX9) (N := 33) in_X9 tyX9_ok nmX9 rfl (by decide) rfl (List.mem_cons_of_mem _ fk_X9_149) rfl (by decide +kernel)
  have kM := kd_M
  have k479 := kd_479
  have k480 := kd_480
  have k481 := kd_481
  have k482 := kd_482
  have k483 := kd_483
  have k484 := kd_484
  have k485 := kd_485
  have k486 := kd_486
  have k487 := kd_487
  have k488 := kd_488
  have k489 := kd_489
  have k490 := kd_490
  have k491 := kd_491
  have k492 := kd_492
  have k493 := kd_493
  have k494 := kd_494
  have k495 := kd_495
  have k496 := kd_496
  have k497 := kd_497
  have k498 := kd_498
  have k499 := kd_499
  have k500 := kd_500
  have k501 := kd_501
  have k502 := kd_502
  have k503 := kd_503
  have lo : ∀ n i s M9, n + i = len → NumF M M9 → NumR M9 s → rdF (M.1 496) len 0 (0, none, fun _ => 0) = rdF (M.1 496) n i s → JJ Z (0, 0) M9 14 [some (.ref ((zE Z).2.2 478)), some (.int (nI i))] [] := by
    intro n
    induction n with
    | zero =>
      intro i s M9 hi hNF hNR hre
      have hl9 : M9.1 478 22 = nI len := by rw [NumF_c hNF (by decide) (by decide)]; exact hlen
      refine jj_iload_n F dX9_read_14 rfl ?_
      refine jj_aload_n F dX9_read_15 rfl ?_
      refine jj_geti F g146 (by assumption) (by rfl) dX9_read_16 ?_
      rw [hl9]
      refine jj_icmp_ge F (tgt := 41) dX9_read_19 (by decide) (fun _ => ?_) (fun h9 => absurd (nI_le (by omega) (by omega)) h9)
      refine jj_iload_n F dX9_read_41 rfl ?_
      refine ret _ _ _ _ dX9_read_42 (by first | rfl | exact nar_z (by first | exact Or.inl rfl | exact Or.inr rfl | exact b2i_01 _ | assumption)) ?_
      rw [hre]
      exact ⟨rfl, hNR, hNF⟩
    | succ n ih =>
      intro i s M9 hi hNF hNR hre
      have hl9 : M9.1 478 22 = nI len := by rw [NumF_c hNF (by decide) (by decide)]; exact hlen
      have ht9 : M9.1 496 i = M.1 496 i := NumF_c hNF (by decide) (fun z => absurd z (by decide))
      refine jj_iload_n F dX9_read_14 rfl ?_
      refine jj_aload_n F dX9_read_15 rfl ?_
      refine jj_geti F g146 (by assumption) (by rfl) dX9_read_16 ?_
      rw [hl9]
      refine jj_icmp_ge F (tgt := 41) dX9_read_19 (by decide) (fun h9 => absurd h9 (nI_ge (by omega) (by omega))) (fun _ => ?_)
      refine jj_aload_n F dX9_read_22 rfl ?_
      refine jj_aload_n F dX9_read_23 rfl ?_
      refine jj_getr F g63 (by assumption) (by rfl) dX9_read_24 ?_
      refine jj_iload_n F dX9_read_27 rfl ?_
      refine jj_iald F (by assumption) rfl (by omega) dX9_read_28 ?_
      rw [ht9]
      refine jj_callVi (na := 1) F (c_X9_takes hNR) (gl_V mk_X9_152 vw_X9_takes) rfl rfl rfl (by decide +kernel) ⟨Nat.le_of_ble_eq_true rfl, Nat.le_of_ble_eq_true rfl⟩ kM rfl rfl rfl (Nat.le_of_ble_eq_true rfl) ⟨Nat.le_of_ble_eq_true rfl, Nat.le_of_ble_eq_true rfl⟩ dX9_read_29 (fun r29 M29 hp29 => ?_)
      obtain rfl := hp29.1
      refine jj_if_eq F (tgt := 41) dX9_read_32 (by decide) (fun h32 => ?_) (fun h32 => ?_)
      · refine jj_iload_n F dX9_read_41 rfl ?_
        refine ret _ _ _ _ dX9_read_42 (by first | rfl | exact nar_z (by first | exact Or.inl rfl | exact Or.inr rfl | exact b2i_01 _ | assumption)) ?_
        have z := van_f h32
        rw [hre, rdF_stop z]
        exact ⟨rfl, hp29.2.1, NumF_tr hNF hp29.2.2⟩
      · refine jj_iinc F dX9_read_35 rfl (by first | exact iinc1 _ | rfl) (by rw [hnl]; decide) ?_
        dsimp only [lq_st, lq_clr, lq_no]
        refine jj_goto F (tgt := 14) dX9_read_38 (by decide) ?_
        have z := van_t h32
        refine ih (i + 1) _ M29 (by omega) (NumF_tr hNF hp29.2.2) hp29.2.1 ?_
        rw [hre, rdF_go z]
  refine jj_aload_n F dX9_read_0 rfl ?_
  refine jj_iconst F (v := nI 0) dX9_read_1 (by decide) ?_
  refine jj_puti F p149 (by assumption) (by rfl) dX9_read_2 ?_
  refine jj_aload_n F dX9_read_5 rfl ?_
  refine jj_getr F g78 (by assumption) (by rfl) dX9_read_6 ?_
  refine jj_iconst F (v := nI 0) dX9_read_9 (by decide) ?_
  refine jj_iconst F (v := -1) dX9_read_10 (by decide) ?_
  refine jj_iast F (by assumption) rfl (by omega) dX9_read_11 ?_
  refine jj_iconst F (v := nI 0) dX9_read_12 (by decide) ?_
  refine jj_istore_n F dX9_read_13 (by rw [hnl]; decide) ?_
  dsimp only [lq_st, lq_clr, lq_no]
  refine lo len 0 (0, none, fun _ => 0) _ (by omega) (NumF_w _ _ _) ⟨by rw [wA_1n (by decide), wA_1s]; simp [upd], fun j hj => absurd hj (Nat.not_lt_zero j), by rw [wA_1s]; rfl, fun v hv => (by cases hv), pok_0 (fun _ => by omega)⟩ rfl
set_option maxRecDepth 100000 in
set_option maxHeartbeats 1000000 in
theorem c_X9_isPath {l : Launch} {E : Ee} {M : Mm} {len : Nat} (hlen : M.1 478 22 = nI len) (h40 : len ≤ 40) : CtI l E yX9_isPath (.code yX9_isPath cX9_isPath 1 (some .boolean) :: gl) ({ frames := 3, cells := 0, slots := 0, locals := 66 } : Room) M [.ref (E.2.2 478)] 0 0 (fun r M2 => r = b2i (pthB (M.1 496) len (fun _ => 0)) ∧ NumR M2 (rdF (M.1 496) len 0 (0, none, fun _ => 0)).2 ∧ NumF M M2) := by
  refine ctI_of (L0 := [some (.ref (E.2.2 478))]) (by decide) rfl (Nat.le_of_ble_eq_true rfl) rfl ?_
  intro Z hl hE hnl F ret
  subst hE
  have in_X9 : ∀ w ∈ u_ws RX9 TX9 33, w ∈ (.code yX9_isPath cX9_isPath 1 (some .boolean) :: gl) := fun w h => List.mem_cons_of_mem _ (lay_X9 w h)
  have g78 : FG Z 78 9 29 := fg_mk F (C := RX9) (T := TX9) (N := 33) in_X9 rfl (by decide) rfl (List.mem_cons_of_mem _ fk_X9_78)
  have g146 : FG Z 146 9 22 := fg_mk F (C := RX9) (T := TX9) (N := 33) in_X9 rfl (by decide) rfl (List.mem_cons_of_mem _ fk_X9_146)
  have g149 : FG Z 149 9 28 := fg_mk F (C := RX9) (T := TX9) (N := 33) in_X9 rfl (by decide) rfl (List.mem_cons_of_mem _ fk_X9_149)
  have kM := kd_M
  have k479 := kd_479
  have k480 := kd_480
  have k481 := kd_481
  have k482 := kd_482
  have k483 := kd_483
  have k484 := kd_484
  have k485 := kd_485
  have k486 := kd_486
  have k487 := kd_487
  have k488 := kd_488
  have k489 := kd_489
  have k490 := kd_490
  have k491 := kd_491
  have k492 := kd_492
  have k493 := kd_493
  have k494 := kd_494
  have k495 := kd_495
  have k496 := kd_496
  have k497 := kd_497
  have k498 := kd_498
  have k499 := kd_499
  have k500 := kd_500
  have k501 := kd_501
  have k502 := kd_502
  have k503 := kd_503
  have hle := rdF_le (cd := M.1 496) (n := len) (i := 0) (s := (0, none, fun _ => 0))
  refine jj_aload_n F dX9_isPath_0 rfl ?_
  refine jj_callVi (na := 0) F (c_X9_read hlen h40) (gl_V mk_X9_156 vw_X9_read) rfl rfl rfl (by decide +kernel) ⟨Nat.le_of_ble_eq_true rfl, Nat.le_of_ble_eq_true rfl⟩ kM rfl rfl rfl (Nat.le_of_ble_eq_true rfl) ⟨Nat.le_of_ble_eq_true rfl, Nat.le_of_ble_eq_true rfl⟩ dX9_isPath_1 (fun r1 M1 hp1 => ?_)
  obtain ⟨rfl, hNR, hNF⟩ := hp1
  obtain ⟨hs12, hm1⟩ := Num_n hNR
  have n1 := hNR.1
  have n3 := hNR.2.2.1
  refine jj_aload_n F dX9_isPath_4 rfl ?_
  refine jj_geti F g146 (by assumption) (by rfl) dX9_isPath_5 ?_
  rw [show M1.1 478 22 = nI len by rw [NumF_c hNF (by decide) (by decide)]; exact hlen]
  refine jj_icmp_ne F (tgt := 38) dX9_isPath_8 (by decide) (fun h8 => ?_) (fun h8 => ?_)
  · refine jj_iconst F (v := nI 0) dX9_isPath_38 (by decide) ?_
    refine ret _ _ _ _ dX9_isPath_39 (nar_z (Or.inl rfl)) ⟨b2i_f ?_, hNR, hNF⟩
    unfold pthB
    first
    | (have z : ¬ (rdF (M.1 496) len 0 (0, none, fun _ => 0)).1 = len := fun q => h8 (by rw [q]); rw [decide_eq_false z]; rfl)
    | (have z : ¬ (rdF (M.1 496) len 0 (0, none, fun _ => 0)).2.1 % 2 = 1 := fun q => h18 (by rw [q]); rw [show ((rdF (M.1 496) len 0 (0, none, fun _ => 0)).2.1 % 2 == 1) = false by rw [beq_eq_false_iff_ne]; exact z]; simp)
    | (have z : (rdF (M.1 496) len 0 (0, none, fun _ => 0)).2.2.1 = none := hm1.mp h31; rw [z]; simp)
  · refine jj_aload_n F dX9_isPath_11 rfl ?_
    refine jj_geti F g149 (by assumption) (by rfl) dX9_isPath_12 ?_
    rw [n1]
    refine jj_iconst F (v := nI 2) dX9_isPath_15 (by decide) ?_
    refine jj_irem F dX9_isPath_16 (by first | decide | assumption) ?_
    rw [show nI (rdF (M.1 496) len 0 (0, none, fun _ => 0)).2.1 - nI (rdF (M.1 496) len 0 (0, none, fun _ => 0)).2.1 / nI 2 * nI 2 = nI ((rdF (M.1 496) len 0 (0, none, fun _ => 0)).2.1 % 2) from pk_rem (by omega) (by omega) (by omega)]
    refine jj_iconst F (v := nI 1) dX9_isPath_17 (by decide) ?_
    refine jj_icmp_ne F (tgt := 38) dX9_isPath_18 (by decide) (fun h18 => ?_) (fun h18 => ?_)
    · refine jj_iconst F (v := nI 0) dX9_isPath_38 (by decide) ?_
      refine ret _ _ _ _ dX9_isPath_39 (nar_z (Or.inl rfl)) ⟨b2i_f ?_, hNR, hNF⟩
      unfold pthB
      first
      | (have z : ¬ (rdF (M.1 496) len 0 (0, none, fun _ => 0)).1 = len := fun q => h8 (by rw [q]); rw [decide_eq_false z]; rfl)
      | (have z : ¬ (rdF (M.1 496) len 0 (0, none, fun _ => 0)).2.1 % 2 = 1 := fun q => h18 (by rw [q]); rw [show ((rdF (M.1 496) len 0 (0, none, fun _ => 0)).2.1 % 2 == 1) = false by rw [beq_eq_false_iff_ne]; exact z]; simp)
      | (have z : (rdF (M.1 496) len 0 (0, none, fun _ => 0)).2.2.1 = none := hm1.mp h31; rw [z]; simp)
    · refine jj_aload_n F dX9_isPath_21 rfl ?_
      refine jj_getr F g78 (by assumption) (by rfl) dX9_isPath_22 ?_
      refine jj_aload_n F dX9_isPath_25 rfl ?_
      refine jj_geti F g149 (by assumption) (by rfl) dX9_isPath_26 ?_
      rw [n1]
      refine jj_iald F (by assumption) rfl (by omega) dX9_isPath_29 ?_
      rw [n3]
      refine jj_iconst F (v := -1) dX9_isPath_30 (by decide) ?_
      refine jj_icmp_eq F (tgt := 38) dX9_isPath_31 (by decide) (fun h31 => ?_) (fun h31 => ?_)
      · refine jj_iconst F (v := nI 0) dX9_isPath_38 (by decide) ?_
        refine ret _ _ _ _ dX9_isPath_39 (nar_z (Or.inl rfl)) ⟨b2i_f ?_, hNR, hNF⟩
        unfold pthB
        first
        | (have z : ¬ (rdF (M.1 496) len 0 (0, none, fun _ => 0)).1 = len := fun q => h8 (by rw [q]); rw [decide_eq_false z]; rfl)
        | (have z : ¬ (rdF (M.1 496) len 0 (0, none, fun _ => 0)).2.1 % 2 = 1 := fun q => h18 (by rw [q]); rw [show ((rdF (M.1 496) len 0 (0, none, fun _ => 0)).2.1 % 2 == 1) = false by rw [beq_eq_false_iff_ne]; exact z]; simp)
        | (have z : (rdF (M.1 496) len 0 (0, none, fun _ => 0)).2.2.1 = none := hm1.mp h31; rw [z]; simp)
      · refine jj_iconst F (v := nI 1) dX9_isPath_34 (by decide) ?_
        refine jj_goto F (tgt := 39) dX9_isPath_35 (by decide) ?_
        refine ret _ _ _ _ dX9_isPath_39 (nar_z (Or.inr rfl)) ⟨b2i_t ?_, hNR, hNF⟩
        have e1 : (rdF (M.1 496) len 0 (0, none, fun _ => 0)).1 = len := (nI_eq (by omega) (by omega)).mp h8
        have e2 : (rdF (M.1 496) len 0 (0, none, fun _ => 0)).2.1 % 2 = 1 := (nI_eq (by omega) (by omega)).mp h18
        have e3 : (rdF (M.1 496) len 0 (0, none, fun _ => 0)).2.2.1.isSome = true := by
          cases q : (rdF (M.1 496) len 0 (0, none, fun _ => 0)).2.2.1 with
          | none => rw [q] at h31; exact absurd rfl h31
          | some v => rfl
        unfold pthB
        rw [e1, e2, e3]
        simp
