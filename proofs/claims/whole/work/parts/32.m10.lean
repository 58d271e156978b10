/-! the reference's cells of the next operation -/
def setC (C : Nat → Nat → Bool) (n : Nat) (S : Nat → Bool) : Nat → Nat → Bool := fun j => if j = n then S else C j
theorem setC_n {C : Nat → Nat → Bool} {n : Nat} {S : Nat → Bool} : setC C n S n = S := if_pos rfl
theorem setC_o {C : Nat → Nat → Bool} {n j : Nat} {S : Nat → Bool} (h : j ≠ n) : setC C n S j = C j := if_neg h
theorem setC_set {C : Nat → Nat → Bool} {n : Nat} {S T : Nat → Bool} : setC (setC C n S) n T = setC C n T := by
  funext j; unfold setC; by_cases h : j = n <;> simp [h]
theorem setC_same (C : Nat → Nat → Bool) (n : Nat) : setC C n (C n) = C := by
  funext j; unfold setC; by_cases h : j = n
  · simp [h]
  · simp [h]
theorem lws_or {C : Nat → Nat → Bool} {n c : Nat} {S : Nat → Bool} (hc : c < 256) : vp_updL (lws (setC C n S)) (4 * n + c / 64) (lws (setC C n S) (4 * n + c / 64) ||| (lN 1 <<< ((nI (c % 64)).toInt64 &&& 63))) = lws (setC C n (fun d => S d || d == c)) := by
  refine lws_upd ?_ (fun p hp => ?_)
  · rw [lws_w _ (by omega), lws_w _ (by omega), setC_n, setC_n]
    apply bl_ext
    intro i hi
    rw [bl_or, bl_lw _ _ _ hi, bl_lw _ _ _ hi, bl_shl (c % 64) (by omega) i hi]
    congr 1
    rw [Bool.eq_iff_iff]
    simp only [decide_eq_true_eq, beq_iff_eq]
    omega
  · unfold lws
    by_cases q : p / 4 = n
    · rw [q, setC_n, setC_n]
      refine lw_cong (fun x hx => ?_)
      rw [show (64 * (p % 4) + x == c) = false by rw [beq_eq_false_iff_ne]; omega, Bool.or_false]
    · rw [setC_o q, setC_o q]
theorem lws_sub {C : Nat → Nat → Bool} {n c : Nat} {S S2 : Nat → Bool} (hc : c < 256) (h : ∀ d, S2 d = (S d && !(d == c))) : vp_updL (lws (setC C n S)) (4 * n + c / 64) (lws (setC C n S) (4 * n + c / 64) &&& ((lN 1 <<< ((nI (c % 64)).toInt64 &&& 63)) ^^^ -1)) = lws (setC C n S2) := by
  refine lws_upd ?_ (fun p hp => ?_)
  · rw [lws_w _ (by omega), lws_w _ (by omega), setC_n, setC_n]
    apply bl_ext
    intro i hi
    rw [bl_and, bl_xor, bl_m1 i hi, bl_lw _ _ _ hi, bl_lw _ _ _ hi, bl_shl (c % 64) (by omega) i hi, h, Bool.xor_true]
    congr 2
    rw [Bool.eq_iff_iff]
    simp only [decide_eq_true_eq, beq_iff_eq]
    omega
  · unfold lws
    by_cases q : p / 4 = n
    · rw [q, setC_n, setC_n]
      refine lw_cong (fun x hx => ?_)
      rw [h, show (64 * (p % 4) + x == c) = false by rw [beq_eq_false_iff_ne]; omega, Bool.not_false, Bool.and_true]
    · rw [setC_o q, setC_o q]
set_option maxRecDepth 100000 in
set_option maxHeartbeats 1000000 in
theorem c_X9_freshCells {l : Launch} {E : Ee} {M : Mm} {n : Nat} {C : Nat → Nat → Bool} (hn : M.1 478 2 = nI n) (h60 : n < 60) (hC : M.2 487 = lws C) : CtV l E yX9_freshCells (.code yX9_freshCells cX9_freshCells 2 none :: gl) ({ frames := 0, cells := 0, slots := 0, locals := 0 } : Room) M [.ref (E.2.2 478)] 0 0 (fun M2 => M2 = wL M 487 (lws (setC C n (fun _ => false)))) := by
  refine ctV_of (L0 := [some (.ref (E.2.2 478)), none]) (by decide) rfl (Nat.le_of_ble_eq_true rfl) rfl ?_
  intro Z hl hE hnl F ret
  subst hE
  have in_X9 : ∀ w ∈ u_ws RX9 TX9 33, w ∈ (.code yX9_freshCells cX9_freshCells 2 none :: gl) := fun w h => List.mem_cons_of_mem _ (lay_X9 w h)
  have g35 : FG Z 35 9 12 := fg_mk F (C := RX9) (T := TX9) (N := 33) in_X9 rfl (by decide) rfl (List.mem_cons_of_mem _ fk_X9_35)
  have g95 : FG Z 95 9 2 := fg_mk F (C := RX9) (T := TX9) (N := 33) in_X9 rfl (by decide) rfl (List.mem_cons_of_mem _ fk_X9_95)
  have kM := kd_M
  have k479 := kd_479
  have k480 := kd_480
  have k481 := kd_481
  have k482 := kd_482
  have k483 := kd_483
  have k484 := kd_484
  have k485 := kd_485
  have k486 := kd_486
  have k487 := kd_487
  have k488 := kd_488
  have k489 := kd_489
  have k490 := kd_490
  have k491 := kd_491
  have k492 := kd_492
  have k493 := kd_493
  have k494 := kd_494
  have k495 := kd_495
  have k496 := kd_496
  have k497 := kd_497
  have k498 := kd_498
  have k499 := kd_499
  have k500 := kd_500
  have k501 := kd_501
  have k502 := kd_502
  have k503 := kd_503
  have lo : ∀ i, i ≤ 4 → JJ Z (0, 0) (wL M 487 (mixW n i C (setC C n (fun _ => false)))) 2 [some (.ref ((zE Z).2.2 478)), some (.int (nI i))] [] := by
    refine jj_loop (4) ?_ ?_
    · refine jj_iload_n F dX9_freshCells_2 rfl ?_
      refine jj_iconst F (v := nI 4) dX9_freshCells_3 (by decide) ?_
      refine jj_icmp_ge F (tgt := 27) dX9_freshCells_4 (by decide) (fun _ => ?_) (fun h9 => absurd (nI_le (by omega) (by omega)) h9)
      rw [mixW_4 (fun j hj => (setC_o hj).symm)]
      exact ret _ _ _ dX9_freshCells_27 rfl
    · intro i hi ih
      refine jj_iload_n F dX9_freshCells_2 rfl ?_
      refine jj_iconst F (v := nI 4) dX9_freshCells_3 (by decide) ?_
      refine jj_icmp_ge F (tgt := 27) dX9_freshCells_4 (by decide) (fun h9 => absurd h9 (nI_ge (by omega) (by omega))) (fun _ => ?_)
      refine jj_aload_n F dX9_freshCells_7 rfl ?_
      refine jj_getr F g35 (by assumption) (by rfl) dX9_freshCells_8 ?_
      refine jj_iconst F (v := nI 4) dX9_freshCells_11 (by decide) ?_
      refine jj_aload_n F dX9_freshCells_12 rfl ?_
      refine jj_geti F g95 (by assumption) (by rfl) dX9_freshCells_13 ?_
      rw [wL_1, hn]
      refine jj_imul F dX9_freshCells_16 ?_
      rw [pk_mul]
      refine jj_iload_n F dX9_freshCells_17 rfl ?_
      refine jj_iadd F dX9_freshCells_18 ?_
      rw [nI_add]
      refine jj_lconst F (v := lN 0) dX9_freshCells_19 (by decide) ?_
      refine jj_last F (by assumption) rfl (by omega) dX9_freshCells_20 ?_
      refine jj_iinc F dX9_freshCells_21 rfl (by first | exact iinc1 _ | rfl) (by rw [hnl]; decide) ?_
      dsimp only [lq_st, lq_clr, lq_no]
      refine jj_goto F (tgt := 2) dX9_freshCells_24 (by decide) ?_
      rw [wL_wL, wL_s, mixW_s hi ?_]
      · exact ih
      · rw [lws_w _ hi, setC_n]
        exact lw_0 i
  refine jj_iconst F (v := nI 0) dX9_freshCells_0 (by decide) ?_
  refine jj_istore_n F dX9_freshCells_1 (by rw [hnl]; decide) ?_
  dsimp only [lq_st, lq_clr, lq_no]
  refine jj_eqM ?_ (lo 0 (by omega))
  rw [mixW_0, ← hC, wL_same]
set_option maxRecDepth 100000 in
set_option maxHeartbeats 1000000 in
theorem c_X9_addCell {l : Launch} {E : Ee} {M : Mm} {n : Nat} {C : Nat → Nat → Bool} (hn : M.1 478 2 = nI n) (h60 : n < 60) {S : Nat → Bool} {c : Nat} (hC : M.2 487 = lws (setC C n S)) (hc : c < 256) : CtV l E yX9_addCell (.code yX9_addCell cX9_addCell 2 none :: gl) ({ frames := 0, cells := 0, slots := 0, locals := 0 } : Room) M [.ref (E.2.2 478), .int (nI c)] 0 0 (fun M2 => M2 = wL M 487 (lws (setC C n (fun d => S d || d == c)))) := by
  refine ctV_of (L0 := [some (.ref (E.2.2 478)), some (.int (nI c))]) (by decide) rfl (Nat.le_of_ble_eq_true rfl) rfl ?_
  intro Z hl hE hnl F ret
  subst hE
  have in_X9 : ∀ w ∈ u_ws RX9 TX9 33, w ∈ (.code yX9_addCell cX9_addCell 2 none :: gl) := fun w h => List.mem_cons_of_mem _ (lay_X9 w h)
  have g35 : FG Z 35 9 12 := fg_mk F (C := RX9) (T := TX9) (N := 33) in_X9 rfl (by decide) rfl (List.mem_cons_of_mem _ fk_X9_35)
  have g95 : FG Z 95 9 2 := fg_mk F (C := RX9) (T := TX9) (N := 33) in_X9 rfl (by decide) rfl (List.mem_cons_of_mem _ fk_X9_95)
  have kM := kd_M
  have k479 := kd_479
  have k480 := kd_480
  have k481 := kd_481
  have k482 := kd_482
  have k483 := kd_483
  have k484 := kd_484
  have k485 := kd_485
  have k486 := kd_486
  have k487 := kd_487
  have k488 := kd_488
  have k489 := kd_489
  have k490 := kd_490
  have k491 := kd_491
  have k492 := kd_492
  have k493 := kd_493
  have k494 := kd_494
  have k495 := kd_495
  have k496 := kd_496
  have k497 := kd_497
  have k498 := kd_498
  have k499 := kd_499
  have k500 := kd_500
  have k501 := kd_501
  have k502 := kd_502
  have k503 := kd_503
  refine jj_aload_n F dX9_addCell_0 rfl ?_
  refine jj_getr F g35 (by assumption) (by rfl) dX9_addCell_1 ?_
  refine jj_iconst F (v := nI 4) dX9_addCell_4 (by decide) ?_
  refine jj_aload_n F dX9_addCell_5 rfl ?_
  refine jj_geti F g95 (by assumption) (by rfl) dX9_addCell_6 ?_
  rw [hn]
  refine jj_imul F dX9_addCell_9 ?_
  rw [pk_mul]
  refine jj_iload_n F dX9_addCell_10 rfl ?_
  refine jj_bipush F (v := nI 64) dX9_addCell_11 (by decide) ?_
  refine jj_idiv F dX9_addCell_13 (by first | decide | assumption) ?_
  rw [show nI c / nI 64 = nI (c / 64) from pk_div (by omega) (by omega) (by omega)]
  refine jj_iadd F dX9_addCell_14 ?_
  rw [nI_add]
  refine jj_dup2 F dX9_addCell_15 rfl rfl ?_
  refine jj_lald F (by assumption) rfl (by omega) dX9_addCell_16 ?_
  refine jj_lconst F (v := lN 1) dX9_addCell_17 (by decide) ?_
  refine jj_iload_n F dX9_addCell_18 rfl ?_
  refine jj_bipush F (v := nI 64) dX9_addCell_19 (by decide) ?_
  refine jj_irem F dX9_addCell_21 (by first | decide | assumption) ?_
  rw [show nI c - nI c / nI 64 * nI 64 = nI (c % 64) from pk_rem (by omega) (by omega) (by omega)]
  refine jj_lshl F dX9_addCell_22 ?_
  refine jj_lor F dX9_addCell_23 ?_
  refine jj_last F (by assumption) rfl (by omega) dX9_addCell_24 ?_
  refine ret _ _ _ dX9_addCell_25 ?_
  rw [hC, lws_or hc]
theorem sgI_n0 {s : Bool} {v : Nat} (hv : v < 2 ^ 31) (h : sgI s v < 0) : s = true ∧ -(sgI s v) = nI v := by
  cases s
  · exact absurd h (nI_nlt (b := 0) (Nat.zero_le _) hv)
  · refine ⟨rfl, ?_⟩
    show -(-(nI v)) = nI v
    exact Int32.neg_neg
theorem sgI_p {s : Bool} {v : Nat} (hv : v < 2 ^ 31) (h : ¬ sgI s v < 0) : sgI s v = nI v ∧ (s = true → v = 0) := by
  cases s
  · exact ⟨rfl, fun h => by cases h⟩
  · have h9 : ¬ -(nI v) < 0 := h
    rw [Int32.lt_iff_toInt_lt, nI_neg_toInt hv] at h9
    have : v = 0 := by
      rcases Nat.eq_zero_or_pos v with q | q
      · exact q
      · exact absurd (show -(v : Int) < Int32.toInt 0 by rw [show Int32.toInt 0 = 0 from rfl]; omega) h9
    subst this
    exact ⟨rfl, fun _ => rfl⟩
theorem rqV_0 {n : Nat} (hn : 0 < n) : rqV 0 n = 0 := by
  unfold rqV
  rw [if_neg (by omega), Nat.mul_zero, Nat.zero_add]
  exact Nat.div_eq_of_lt (by omega)
set_option maxRecDepth 100000 in
set_option maxHeartbeats 1000000 in
theorem c_X9_rounded {l : Launch} {E : Ee} {M : Mm} {s : Bool} {v n : Nat} (hv : v < 1000000) (hn : 0 < n) (hn2 : n < 1000) : CtI l E yX9_rounded (.code yX9_rounded cX9_rounded 2 (some .int) :: gl) ({ frames := 0, cells := 0, slots := 0, locals := 0 } : Room) M [.int (sgI s v), .int (nI n)] 0 0 (fun r M2 => r = sgI s (rqV v n) ∧ M2 = M) := by
  refine ctI_of (L0 := [some (.int (sgI s v)), some (.int (nI n))]) (by decide) rfl (Nat.le_of_ble_eq_true rfl) rfl ?_
  intro Z hl hE hnl F ret
  subst hE
  refine jj_iload_n F dX9_rounded_0 rfl ?_
  refine jj_if_ge F (tgt := 18) dX9_rounded_1 (by decide) (fun h1 => ?_) (fun h1 => ?_)
  · refine jj_iconst F (v := nI 2) dX9_rounded_18 (by decide) ?_
    refine jj_iload_n F dX9_rounded_19 rfl ?_
    refine jj_imul F dX9_rounded_20 ?_
    refine jj_iload_n F dX9_rounded_21 rfl ?_
    refine jj_iadd F dX9_rounded_22 ?_
    refine jj_iconst F (v := nI 2) dX9_rounded_23 (by decide) ?_
    refine jj_iload_n F dX9_rounded_24 rfl ?_
    refine jj_imul F dX9_rounded_25 ?_
    refine jj_idiv F dX9_rounded_26 (by rw [pk_mul]; exact fun z => by have := (nI_eq (b := 0) (by omega) (by omega)).mp z; omega) ?_
    refine ret _ _ _ _ dX9_rounded_27 (by first | rfl | exact nar_z (by first | exact Or.inl rfl | exact Or.inr rfl | exact b2i_01 _ | assumption)) ?_
    first
    | (have z : sgI s v < 0 := i32_nle h1; obtain ⟨e1, e2⟩ := sgI_n0 (by omega) z; refine ⟨?_, rfl⟩; rw [e2, rq_val (by omega) hn (by omega), e1]; rfl)
    | (have z : ¬ sgI s v < 0 := i32_le_nlt h1; obtain ⟨e1, e2⟩ := sgI_p (by omega) z; refine ⟨?_, rfl⟩; rw [e1, rq_val (by omega) hn (by omega)]; cases s with | false => rfl | true => (rw [e2 rfl, rqV_0 hn]; rfl))
  · refine jj_iconst F (v := nI 2) dX9_rounded_4 (by decide) ?_
    refine jj_iload_n F dX9_rounded_5 rfl ?_
    refine jj_ineg F dX9_rounded_6 ?_
    refine jj_imul F dX9_rounded_7 ?_
    refine jj_iload_n F dX9_rounded_8 rfl ?_
    refine jj_iadd F dX9_rounded_9 ?_
    refine jj_iconst F (v := nI 2) dX9_rounded_10 (by decide) ?_
    refine jj_iload_n F dX9_rounded_11 rfl ?_
    refine jj_imul F dX9_rounded_12 ?_
    refine jj_idiv F dX9_rounded_13 (by rw [pk_mul]; exact fun z => by have := (nI_eq (b := 0) (by omega) (by omega)).mp z; omega) ?_
    refine jj_ineg F dX9_rounded_14 ?_
    refine jj_goto F (tgt := 27) dX9_rounded_15 (by decide) ?_
    refine ret _ _ _ _ dX9_rounded_27 (by first | rfl | exact nar_z (by first | exact Or.inl rfl | exact Or.inr rfl | exact b2i_01 _ | assumption)) ?_
    first
    | (have z : sgI s v < 0 := i32_nle h1; obtain ⟨e1, e2⟩ := sgI_n0 (by omega) z; refine ⟨?_, rfl⟩; rw [e2, rq_val (by omega) hn (by omega), e1]; rfl)
    | (have z : ¬ sgI s v < 0 := i32_le_nlt h1; obtain ⟨e1, e2⟩ := sgI_p (by omega) z; refine ⟨?_, rfl⟩; rw [e1, rq_val (by omega) hn (by omega)]; cases s with | false => rfl | true => (rw [e2 rfl, rqV_0 hn]; rfl))
theorem less8n (a b c d e f g h i : Option Value) : ∀ (n : Nat) (v : Value), ([a, b, c, d, e, none, none, h, i] : List (Option Value))[n]? = some (some v) → ([a, b, c, d, e, f, g, h, i] : List (Option Value))[n]? = some (some v)
  | 0, _, h => h
  | 1, _, h => h
  | 2, _, h => h
  | 3, _, h => h
  | 4, _, h => h
  | 5, _, h => by simp at h
  | 6, _, h => by simp at h
  | 7, _, h => h
  | 8, _, h => h
  | n + 9, _, h => by simp at h
theorem lnC_lt {x1 y1 x2 y2 k : Nat} (h1 : x1 < 16) (h2 : y1 < 16) (h3 : x2 < 16) (h4 : y2 < 16) (hk : k ≤ lnN x1 y1 x2 y2) : lnC x1 y1 x2 y2 k < 256 := by
  unfold lnC
  have a := lnP_lt (k := k) (n := lnN x1 y1 x2 y2) h2 h4 hk
  have b := lnP_lt (k := k) (n := lnN x1 y1 x2 y2) h1 h3 hk
  omega
theorem lnC_0 {x1 y1 x2 y2 : Nat} : lnC x1 y1 x2 y2 0 = 16 * y1 + x1 := by
  have z : ∀ n, rqV 0 n = 0 := fun n => by
    rcases Nat.eq_zero_or_pos n with q | q
    · subst q; rfl
    · exact rqV_0 q
  unfold lnC lnP
  simp only [Nat.zero_mul, z]
  split <;> split <;> simp
theorem exB_or {p : Nat → Bool} {i : Nat} : (exB i p || p i) = exB (i + 1) p := by simp [exB]
theorem exB_one {p : Nat → Bool} : exB 1 p = p 0 := by simp [exB]
set_option maxRecDepth 100000 in
set_option maxHeartbeats 1000000 in
theorem c_X9_addLine {l : Launch} {E : Ee} {M : Mm} {n : Nat} {C : Nat → Nat → Bool} (hn : M.1 478 2 = nI n) (h60 : n < 60) {S : Nat → Bool} {x1 y1 x2 y2 : Nat} (hC : M.2 487 = lws (setC C n S)) (h1 : x1 < 16) (h2 : y1 < 16) (h3 : x2 < 16) (h4 : y2 < 16) : CtV l E yX9_addLine (.code yX9_addLine cX9_addLine 9 none :: gl) ({ frames := 1, cells := 0, slots := 0, locals := 21 } : Room) M [.ref (E.2.2 478), .int (nI x1), .int (nI y1), .int (nI x2), .int (nI y2)] 0 0 (fun M2 => M2 = wL M 487 (lws (setC C n (fun d => S d || exB (lnN x1 y1 x2 y2 + 1) (fun q => lnC x1 y1 x2 y2 q == d))))) := by
  refine ctV_of (L0 := [some (.ref (E.2.2 478)), some (.int (nI x1)), some (.int (nI y1)), some (.int (nI x2)), some (.int (nI y2)), none, none, none, none]) (by decide) rfl (Nat.le_of_ble_eq_true rfl) rfl ?_
  intro Z hl hE hnl F ret
  subst hE
  have kM := kd_M
  have k479 := kd_479
  have k480 := kd_480
  have k481 := kd_481
  have k482 := kd_482
  have k483 := kd_483
  have k484 := kd_484
  have k485 := kd_485
  have k486 := kd_486
  have k487 := kd_487
  have k488 := kd_488
  have k489 := kd_489
  have k490 := kd_490
  have k491 := kd_491
  have k492 := kd_492
  have k493 := kd_493
  have k494 := kd_494
  have k495 := kd_495
  have k496 := kd_496
  have k497 := kd_497
  have k498 := kd_498
  have k499 := kd_499
  have k500 := kd_500
  have k501 := kd_501
  have k502 := kd_502
  have k503 := kd_503
  have hN16 : (lnN x1 y1 x2 y2) < 16 := by unfold lnN; have := dst_lt h1 h3; have := dst_lt h2 h4; omega
  have lo : ∀ i, i ≤ (lnN x1 y1 x2 y2) → JJ Z (0, 0) (wL M 487 (lws (setC C n (fun d => S d || exB (i + 1) (fun q => lnC x1 y1 x2 y2 q == d))))) 64 [some (.ref ((zE Z).2.2 478)), some (.int (nI x1)), some (.int (nI y1)), some (.int (nI x2)), some (.int (nI y2)), none, none, some (.int (nI (lnN x1 y1 x2 y2))), some (.int (nI (i + 1)))] [] := by
    refine jj_loop (lnN x1 y1 x2 y2) ?_ ?_
    · refine jj_iload F dX9_addLine_64 rfl ?_
      refine jj_iload F dX9_addLine_66 rfl ?_
      refine jj_icmp_gt F (tgt := 112) dX9_addLine_68 (by decide) (fun _ => ?_) (fun h9 => absurd (nI_lt (by omega) (by omega)) h9)
      refine ret _ _ _ dX9_addLine_112 ?_
      rfl
    · intro i hi ih
      have hC9 : (wL M 487 (lws (setC C n (fun d => S d || exB (i + 1) (fun q => lnC x1 y1 x2 y2 q == d))))).2 487 = lws (setC C n (fun d => S d || exB (i + 1) (fun q => lnC x1 y1 x2 y2 q == d))) := wL_s _ _ _
      have hc9 := lnC_lt h1 h2 h3 h4 (k := i + 1) (by omega)
      refine jj_iload F dX9_addLine_64 rfl ?_
      refine jj_iload F dX9_addLine_66 rfl ?_
      refine jj_icmp_gt F (tgt := 112) dX9_addLine_68 (by decide) (fun h9 => absurd h9 (nI_nlt (by omega) (by omega))) (fun _ => ?_)
      refine jj_aload_n F dX9_addLine_71 rfl ?_
      refine jj_bipush F (v := nI 16) dX9_addLine_72 (by decide) ?_
      refine jj_iload_n F dX9_addLine_74 rfl ?_
      refine jj_iload F dX9_addLine_75 rfl ?_
      refine jj_iload F dX9_addLine_77 rfl ?_
      refine jj_iload_n F dX9_addLine_79 rfl ?_
      refine jj_isub F dX9_addLine_80 ?_
      rw [sgI_sub h2 h4]
      refine jj_imul F dX9_addLine_81 ?_
      rw [sgI_mul (by omega) (by have := dst_lt h2 h4; omega)]
      refine jj_iload F dX9_addLine_82 rfl ?_
      refine jj_callSi (na := 2) F (c_X9_rounded (s := decide (y2 < y1)) (v := (i + 1) * dst y1 y2) (n := (lnN x1 y1 x2 y2)) (by have := dst_lt h2 h4; have : (i + 1) * dst y1 y2 ≤ 16 * 16 := Nat.mul_le_mul (by omega) (by omega); omega) (by omega) (by omega)) (gl_S mk_X9_163 vw_X9_rounded) rfl rfl rfl (by decide +kernel) ⟨Nat.le_of_ble_eq_true rfl, Nat.le_of_ble_eq_true rfl⟩ rfl rfl (Nat.le_of_ble_eq_true rfl) ⟨Nat.le_of_ble_eq_true rfl, Nat.le_of_ble_eq_true rfl⟩ dX9_addLine_84 (fun r84 M84 hp84 => ?_)
      obtain ⟨rfl, rfl⟩ := symm2 hp84
      refine jj_iadd F dX9_addLine_87 ?_
      rw [sgI_add h2 h4 (by omega)]
      refine jj_imul F dX9_addLine_88 ?_
      rw [pk_mul]
      refine jj_iload_n F dX9_addLine_89 rfl ?_
      refine jj_iadd F dX9_addLine_90 ?_
      rw [nI_add]
      refine jj_iload F dX9_addLine_91 rfl ?_
      refine jj_iload_n F dX9_addLine_93 rfl ?_
      refine jj_iload_n F dX9_addLine_94 rfl ?_
      refine jj_isub F dX9_addLine_95 ?_
      rw [sgI_sub h1 h3]
      refine jj_imul F dX9_addLine_96 ?_
      rw [sgI_mul (by omega) (by have := dst_lt h1 h3; omega)]
      refine jj_iload F dX9_addLine_97 rfl ?_
      refine jj_callSi (na := 2) F (c_X9_rounded (s := decide (x2 < x1)) (v := (i + 1) * dst x1 x2) (n := (lnN x1 y1 x2 y2)) (by have := dst_lt h1 h3; have : (i + 1) * dst x1 x2 ≤ 16 * 16 := Nat.mul_le_mul (by omega) (by omega); omega) (by omega) (by omega)) (gl_S mk_X9_163 vw_X9_rounded) rfl rfl rfl (by decide +kernel) ⟨Nat.le_of_ble_eq_true rfl, Nat.le_of_ble_eq_true rfl⟩ rfl rfl (Nat.le_of_ble_eq_true rfl) ⟨Nat.le_of_ble_eq_true rfl, Nat.le_of_ble_eq_true rfl⟩ dX9_addLine_99 (fun r99 M99 hp99 => ?_)
      obtain ⟨rfl, rfl⟩ := symm2 hp99
      refine jj_iadd F dX9_addLine_102 ?_
      rw [show nI (16 * lnP y1 y2 (i + 1) (lnN x1 y1 x2 y2) + x1) + sgI (decide (x2 < x1)) (rqV ((i + 1) * dst x1 x2) (lnN x1 y1 x2 y2)) = nI (lnC x1 y1 x2 y2 (i + 1)) from by rw [← nI_add, Int32.add_assoc, sgI_add h1 h3 (by omega), nI_add]; rfl]
      refine jj_callVv (na := 1) F (c_X9_addCell (C := C) (M := wL M 487 (lws (setC C n (fun d => S d || exB (i + 1) (fun q => lnC x1 y1 x2 y2 q == d))))) hn h60 hC9 hc9) (gl_V mk_X9_160 vw_X9_addCell) rfl rfl rfl (by decide +kernel) ⟨Nat.le_of_ble_eq_true rfl, Nat.le_of_ble_eq_true rfl⟩ kM rfl rfl rfl (Nat.le_of_ble_eq_true rfl) ⟨Nat.le_of_ble_eq_true rfl, Nat.le_of_ble_eq_true rfl⟩ dX9_addLine_103 (fun M103 hp103 => ?_)
      obtain rfl := hp103.symm
      refine jj_iinc F dX9_addLine_106 rfl (by first | exact iinc1 _ | rfl) (by rw [hnl]; decide) ?_
      dsimp only [lq_st, lq_clr, lq_no]
      refine jj_goto F (tgt := 64) dX9_addLine_109 (by decide) ?_
      rw [wL_wL]
      refine jj_eqM ?_ ih
      have hS9 : (fun d => S d || exB (i + 1) (fun q => lnC x1 y1 x2 y2 q == d) || d == lnC x1 y1 x2 y2 (i + 1)) = (fun d => S d || exB (i + 1 + 1) (fun q => lnC x1 y1 x2 y2 q == d)) := by
        funext d
        rw [Bool.or_assoc, beq_nat d]
        exact congrArg (fun w => S d || w) (exB_or (p := fun q => lnC x1 y1 x2 y2 q == d) (i := i + 1))
      rw [hS9]
  have j49 : ∀ x5 x6 : Option Value, JJ Z (0, 0) M 49 [some (.ref ((zE Z).2.2 478)), some (.int (nI x1)), some (.int (nI y1)), some (.int (nI x2)), some (.int (nI y2)), x5, x6, none, none] [.int (nI (lnN x1 y1 x2 y2))] := by
    intro x5 x6
    refine jj_istore F dX9_addLine_49 (by rw [hnl]; decide) ?_
    dsimp only [lq_st, lq_clr, lq_no]
    refine jj_aload_n F dX9_addLine_51 rfl ?_
    refine jj_bipush F (v := nI 16) dX9_addLine_52 (by decide) ?_
    refine jj_iload_n F dX9_addLine_54 rfl ?_
    refine jj_imul F dX9_addLine_55 ?_
    rw [pk_mul]
    refine jj_iload_n F dX9_addLine_56 rfl ?_
    refine jj_iadd F dX9_addLine_57 ?_
    rw [nI_add]
    refine jj_callVv (na := 1) F (c_X9_addCell hn h60 hC (by omega)) (gl_V mk_X9_160 vw_X9_addCell) rfl rfl rfl (by decide +kernel) ⟨Nat.le_of_ble_eq_true rfl, Nat.le_of_ble_eq_true rfl⟩ kM rfl rfl rfl (Nat.le_of_ble_eq_true rfl) ⟨Nat.le_of_ble_eq_true rfl, Nat.le_of_ble_eq_true rfl⟩ dX9_addLine_58 (fun M58 hp58 => ?_)
    obtain rfl := hp58.symm
    refine jj_iconst F (v := nI 1) dX9_addLine_61 (by decide) ?_
    refine jj_istore F dX9_addLine_62 (by rw [hnl]; decide) ?_
    dsimp only [lq_st, lq_clr, lq_no]
    refine jj_less (L2 := [some (.ref ((zE Z).2.2 478)), some (.int (nI x1)), some (.int (nI y1)), some (.int (nI x2)), some (.int (nI y2)), none, none, some (.int (nI (lnN x1 y1 x2 y2))), some (.int (nI 1))]) (less8n _ _ _ _ _ _ _ _ _) ?_
    refine jj_eqM ?_ (lo 0 (by omega))
    have hS9 : (fun d => S d || d == 16 * y1 + x1) = (fun d => S d || exB 1 (fun q => lnC x1 y1 x2 y2 q == d)) := by
      funext d
      rw [exB_one, lnC_0, beq_nat d]
    rw [hS9]
  have ea : ∀ a b : Nat, a < 16 → b < 16 → ¬ nI b ≤ nI a → nI b - nI a = nI (dst a b) := fun a b ha hb h => by
    have : a < b := Nat.lt_of_not_le (fun q => h (nI_le q (by omega)))
    rw [pk_sub (by omega)]; unfold dst; rw [if_pos this]
  have eb : ∀ a b : Nat, a < 16 → b < 16 → nI b ≤ nI a → nI a - nI b = nI (dst a b) := fun a b ha hb h => by
    have : b ≤ a := (nI_leI (by omega) (by omega)).mp h
    rw [pk_sub this]; unfold dst; rw [if_neg (by omega)]
  have j33 : JJ Z (0, 0) M 33 [some (.ref ((zE Z).2.2 478)), some (.int (nI x1)), some (.int (nI y1)), some (.int (nI x2)), some (.int (nI y2)), some (.int (nI (dst x1 x2))), none, none, none] [.int (nI (dst y1 y2))] := by
    refine jj_istore F dX9_addLine_33 (by rw [hnl]; decide) ?_
    dsimp only [lq_st, lq_clr, lq_no]
    refine jj_iload F dX9_addLine_35 rfl ?_
    refine jj_iload F dX9_addLine_37 rfl ?_
    refine jj_icmp_le F (tgt := 47) dX9_addLine_39 (by decide) (fun h39 => ?_) (fun h39 => ?_)
    · refine jj_iload F dX9_addLine_47 rfl ?_
      refine jj_topi ?_ (j49 _ _)
      first
      | (have z := (nI_leI (by have := dst_lt h1 h3; omega) (by have := dst_lt h2 h4; omega)).mp h39; unfold lnN; rw [Nat.max_eq_right z]; done)
      | (have z : ¬ dst x1 x2 ≤ dst y1 y2 := fun q => h39 (nI_le q (by have := dst_lt h2 h4; omega)); unfold lnN; rw [Nat.max_eq_left (by omega)]; done)
    · refine jj_iload F dX9_addLine_42 rfl ?_
      refine jj_goto F (tgt := 49) dX9_addLine_44 (by decide) ?_
      refine jj_topi ?_ (j49 _ _)
      first
      | (have z := (nI_leI (by have := dst_lt h1 h3; omega) (by have := dst_lt h2 h4; omega)).mp h39; unfold lnN; rw [Nat.max_eq_right z]; done)
      | (have z : ¬ dst x1 x2 ≤ dst y1 y2 := fun q => h39 (nI_le q (by have := dst_lt h2 h4; omega)); unfold lnN; rw [Nat.max_eq_left (by omega)]; done)
  have j14 : JJ Z (0, 0) M 14 [some (.ref ((zE Z).2.2 478)), some (.int (nI x1)), some (.int (nI y1)), some (.int (nI x2)), some (.int (nI y2)), none, none, none, none] [.int (nI (dst x1 x2))] := by
    refine jj_istore F dX9_addLine_14 (by rw [hnl]; decide) ?_
    dsimp only [lq_st, lq_clr, lq_no]
    refine jj_iload F dX9_addLine_16 rfl ?_
    refine jj_iload_n F dX9_addLine_18 rfl ?_
    refine jj_icmp_le F (tgt := 29) dX9_addLine_19 (by decide) (fun h19 => ?_) (fun h19 => ?_)
    · refine jj_iload_n F dX9_addLine_29 rfl ?_
      refine jj_iload F dX9_addLine_30 rfl ?_
      refine jj_isub F dX9_addLine_32 ?_
      refine jj_topi ?_ j33
      first
      | exact eb _ _ h2 h4 h19
      | exact ea _ _ h2 h4 h19
    · refine jj_iload F dX9_addLine_22 rfl ?_
      refine jj_iload_n F dX9_addLine_24 rfl ?_
      refine jj_isub F dX9_addLine_25 ?_
      refine jj_goto F (tgt := 33) dX9_addLine_26 (by decide) ?_
      refine jj_topi ?_ j33
      first
      | exact eb _ _ h2 h4 h19
      | exact ea _ _ h2 h4 h19
  refine jj_iload_n F dX9_addLine_0 rfl ?_
  refine jj_iload_n F dX9_addLine_1 rfl ?_
  refine jj_icmp_le F (tgt := 11) dX9_addLine_2 (by decide) (fun h2x => ?_) (fun h2x => ?_)
  · refine jj_iload_n F dX9_addLine_11 rfl ?_
    refine jj_iload_n F dX9_addLine_12 rfl ?_
    refine jj_isub F dX9_addLine_13 ?_
    refine jj_topi ?_ j14
    first
    | exact eb _ _ h1 h3 h2x
    | exact ea _ _ h1 h3 h2x
  · refine jj_iload_n F dX9_addLine_5 rfl ?_
    refine jj_iload_n F dX9_addLine_6 rfl ?_
    refine jj_isub F dX9_addLine_7 ?_
    refine jj_goto F (tgt := 14) dX9_addLine_8 (by decide) ?_
    refine jj_topi ?_ j14
    first
    | exact eb _ _ h1 h3 h2x
    | exact ea _ _ h1 h3 h2x
set_option maxRecDepth 100000 in
set_option maxHeartbeats 1000000 in
theorem c_X9_layPath {l : Launch} {E : Ee} {M : Mm} {n : Nat} {C : Nat → Nat → Bool} (hn : M.1 478 2 = nI n) (h60 : n < 60) (hC : M.2 487 = lws C) {p : Nat} {v : Nat → Nat} (hp : p < 6) (hnum : M.1 478 28 = nI (2 * p + 1)) (hnv : ∀ j, j ≤ 2 * p + 1 → M.1 501 j = nI (v j)) (hvs : ∀ j, v j < 16) : CtV l E yX9_layPath (.code yX9_layPath cX9_layPath 2 none :: gl) ({ frames := 2, cells := 0, slots := 0, locals := 49 } : Room) M [.ref (E.2.2 478)] 0 0 (fun M2 => M2 = wA (wL M 487 (lws (setC C n (drS (fun j => v (2 * j)) (fun j => v (2 * j + 1)) p)))) 478 (upd (M.1 478) 22 (nI 0))) := by
  refine ctV_of (L0 := [some (.ref (E.2.2 478)), none]) (by decide) rfl (Nat.le_of_ble_eq_true rfl) rfl ?_
  intro Z hl hE hnl F ret
  subst hE
  have in_X9 : ∀ w ∈ u_ws RX9 TX9 33, w ∈ (.code yX9_layPath cX9_layPath 2 none :: gl) := fun w h => List.mem_cons_of_mem _ (lay_X9 w h)
  have g78 : FG Z 78 9 29 := fg_mk F (C := RX9) (T := TX9) (N := 33) in_X9 rfl (by decide) rfl (List.mem_cons_of_mem _ fk_X9_78)
  have g149 : FG Z 149 9 28 := fg_mk F (C := RX9) (T := TX9) (N := 33) in_X9 rfl (by decide) rfl (List.mem_cons_of_mem _ fk_X9_149)
  have p146 : FP Z 146 9 22 .int := fp_mk F (C := RX9) (T := TX9) (N := 33) in_X9 tyX9_ok nmX9 rfl (by decide) rfl (List.mem_cons_of_mem _ fk_X9_146) rfl (by decide +kernel)
  have kM := kd_M
  have k479 := kd_479
  have k480 := kd_480
  have k481 := kd_481
  have k482 := kd_482
  have k483 := kd_483
  have k484 := kd_484
  have k485 := kd_485
  have k486 := kd_486
  have k487 := kd_487
  have k488 := kd_488
  have k489 := kd_489
  have k490 := kd_490
  have k491 := kd_491
  have k492 := kd_492
  have k493 := kd_493
  have k494 := kd_494
  have k495 := kd_495
  have k496 := kd_496
  have k497 := kd_497
  have k498 := kd_498
  have k499 := kd_499
  have k500 := kd_500
  have k501 := kd_501
  have k502 := kd_502
  have k503 := kd_503
  have hv16 : ∀ j, v j < 16 := hvs
  have lo : ∀ i, i ≤ p → JJ Z (0, 0) (wL M 487 (lws (setC C n (drS (fun j => v (2 * j)) (fun j => v (2 * j + 1)) i)))) 26 [some (.ref ((zE Z).2.2 478)), some (.int (nI (2 + 2 * i)))] [] := by
    refine jj_loop p ?_ ?_
    · refine jj_iload_n F dX9_layPath_26 rfl ?_
      refine jj_aload_n F dX9_layPath_27 rfl ?_
      refine jj_geti F g149 (by assumption) (by rfl) dX9_layPath_28 ?_
      rw [wL_1, hnum]
      refine jj_icmp_ge F (tgt := 74) dX9_layPath_31 (by decide) (fun _ => ?_) (fun h9 => absurd (nI_le (by omega) (by omega)) h9)
      refine jj_aload_n F dX9_layPath_74 rfl ?_
      refine jj_iconst F (v := nI 0) dX9_layPath_75 (by decide) ?_
      refine jj_puti F p146 (by assumption) (by rfl) dX9_layPath_76 ?_
      refine ret _ _ _ dX9_layPath_79 ?_
      rfl
    · intro i hi ih
      have hC9 : (wL M 487 (lws (setC C n (drS (fun j => v (2 * j)) (fun j => v (2 * j + 1)) i)))).2 487 = lws (setC C n (drS (fun j => v (2 * j)) (fun j => v (2 * j + 1)) i)) := wL_s _ _ _
      refine jj_iload_n F dX9_layPath_26 rfl ?_
      refine jj_aload_n F dX9_layPath_27 rfl ?_
      refine jj_geti F g149 (by assumption) (by rfl) dX9_layPath_28 ?_
      rw [wL_1, hnum]
      refine jj_icmp_ge F (tgt := 74) dX9_layPath_31 (by decide) (fun h9 => absurd h9 (nI_ge (by omega) (by omega))) (fun _ => ?_)
      refine jj_aload_n F dX9_layPath_34 rfl ?_
      refine jj_aload_n F dX9_layPath_35 rfl ?_
      refine jj_getr F g78 (by assumption) (by rfl) dX9_layPath_36 ?_
      refine jj_iload_n F dX9_layPath_39 rfl ?_
      refine jj_iconst F (v := nI 2) dX9_layPath_40 (by decide) ?_
      refine jj_isub F dX9_layPath_41 ?_
      rw [show nI (2 + 2 * i) - nI 2 = nI (2 * i) by rw [pk_sub (by omega), show 2 + 2 * i - 2 = 2 * i by omega]]
      refine jj_iald F (by assumption) rfl (by omega) dX9_layPath_42 ?_
      rw [wL_1, hnv (2 * i) (by omega)]
      refine jj_aload_n F dX9_layPath_43 rfl ?_
      refine jj_getr F g78 (by assumption) (by rfl) dX9_layPath_44 ?_
      refine jj_iload_n F dX9_layPath_47 rfl ?_
      refine jj_iconst F (v := nI 1) dX9_layPath_48 (by decide) ?_
      refine jj_isub F dX9_layPath_49 ?_
      rw [show nI (2 + 2 * i) - nI 1 = nI (2 * i + 1) by rw [pk_sub (by omega), show 2 + 2 * i - 1 = 2 * i + 1 by omega]]
      refine jj_iald F (by assumption) rfl (by omega) dX9_layPath_50 ?_
      rw [wL_1, hnv (2 * i + 1) (by omega)]
      refine jj_aload_n F dX9_layPath_51 rfl ?_
      refine jj_getr F g78 (by assumption) (by rfl) dX9_layPath_52 ?_
      refine jj_iload_n F dX9_layPath_55 rfl ?_
      refine jj_iald F (by assumption) rfl (by omega) dX9_layPath_56 ?_
      rw [wL_1, hnv (2 + 2 * i) (by omega)]
      refine jj_aload_n F dX9_layPath_57 rfl ?_
      refine jj_getr F g78 (by assumption) (by rfl) dX9_layPath_58 ?_
      refine jj_iload_n F dX9_layPath_61 rfl ?_
      refine jj_iconst F (v := nI 1) dX9_layPath_62 (by decide) ?_
      refine jj_iadd F dX9_layPath_63 ?_
      rw [nI_add]
      refine jj_iald F (by assumption) rfl (by omega) dX9_layPath_64 ?_
      rw [wL_1, hnv (2 + 2 * i + 1) (by omega)]
      rw [show 2 + 2 * i = 2 * (i + 1) by omega]
      refine jj_callVv (na := 4) F (c_X9_addLine (C := C) (M := wL M 487 (lws (setC C n (drS (fun j => v (2 * j)) (fun j => v (2 * j + 1)) i)))) hn h60 hC9 (hv16 _) (hv16 _) (hv16 _) (hv16 _)) (gl_V mk_X9_180 vw_X9_addLine) rfl rfl rfl (by decide +kernel) ⟨Nat.le_of_ble_eq_true rfl, Nat.le_of_ble_eq_true rfl⟩ kM rfl rfl rfl (Nat.le_of_ble_eq_true rfl) ⟨Nat.le_of_ble_eq_true rfl, Nat.le_of_ble_eq_true rfl⟩ dX9_layPath_65 (fun M65 hp65 => ?_)
      obtain rfl := hp65.symm
      refine jj_iinc F dX9_layPath_68 rfl (by rw [show nI (2 * (i + 1)) + Int32.ofInt 2 = nI (2 * (i + 1)) + nI 2 from rfl, nI_add]) (by rw [hnl]; decide) ?_
      dsimp only [lq_st, lq_clr, lq_no]
      refine jj_goto F (tgt := 26) dX9_layPath_71 (by decide) ?_
      rw [wL_wL]
      refine jj_eqL ?_ ih
      rw [Nat.add_comm]
  refine jj_aload_n F dX9_layPath_0 rfl ?_
  refine jj_callVv (na := 0) F (c_X9_freshCells hn h60 hC) (gl_V mk_X9_177 vw_X9_freshCells) rfl rfl rfl (by decide +kernel) ⟨Nat.le_of_ble_eq_true rfl, Nat.le_of_ble_eq_true rfl⟩ kM rfl rfl rfl (Nat.le_of_ble_eq_true rfl) ⟨Nat.le_of_ble_eq_true rfl, Nat.le_of_ble_eq_true rfl⟩ dX9_layPath_1 (fun M1 hp1 => ?_)
  obtain rfl := hp1.symm
  refine jj_aload_n F dX9_layPath_4 rfl ?_
  refine jj_bipush F (v := nI 16) dX9_layPath_5 (by decide) ?_
  refine jj_aload_n F dX9_layPath_7 rfl ?_
  refine jj_getr F g78 (by assumption) (by rfl) dX9_layPath_8 ?_
  refine jj_iconst F (v := nI 1) dX9_layPath_11 (by decide) ?_
  refine jj_iald F (by assumption) rfl (by omega) dX9_layPath_12 ?_
  rw [wL_1, hnv 1 (by omega)]
  refine jj_imul F dX9_layPath_13 ?_
  rw [pk_mul]
  refine jj_aload_n F dX9_layPath_14 rfl ?_
  refine jj_getr F g78 (by assumption) (by rfl) dX9_layPath_15 ?_
  refine jj_iconst F (v := nI 0) dX9_layPath_18 (by decide) ?_
  refine jj_iald F (by assumption) rfl (by omega) dX9_layPath_19 ?_
  rw [wL_1, hnv 0 (by omega)]
  refine jj_iadd F dX9_layPath_20 ?_
  rw [nI_add]
  have hC0 : (wL M 487 (lws (setC C n (fun _ => false)))).2 487 = lws (setC C n (fun _ => false)) := wL_s _ _ _
  have q0 := hv16 0
  have q1 := hv16 1
  refine jj_callVv (na := 1) F (c_X9_addCell (C := C) (M := wL M 487 (lws (setC C n (fun _ => false)))) hn h60 hC0 (by omega)) (gl_V mk_X9_160 vw_X9_addCell) rfl rfl rfl (by decide +kernel) ⟨Nat.le_of_ble_eq_true rfl, Nat.le_of_ble_eq_true rfl⟩ kM rfl rfl rfl (Nat.le_of_ble_eq_true rfl) ⟨Nat.le_of_ble_eq_true rfl, Nat.le_of_ble_eq_true rfl⟩ dX9_layPath_21 (fun M21 hp21 => ?_)
  obtain rfl := hp21.symm
  refine jj_iconst F (v := nI 2) dX9_layPath_24 (by decide) ?_
  refine jj_istore_n F dX9_layPath_25 (by rw [hnl]; decide) ?_
  dsimp only [lq_st, lq_clr, lq_no]
  rw [wL_wL]
  refine jj_eqM ?_ (lo 0 (by omega))
  have hS9 : (fun d => (fun _ => false) d || d == 16 * v 1 + v 0) = (drS (fun j => v (2 * j)) (fun j => v (2 * j + 1)) 0) := by
    funext d
    rw [Bool.false_or]
    rfl
  rw [hS9]
