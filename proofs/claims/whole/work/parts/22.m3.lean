/-- what is left behind the first k operations: go says which go; others keep what was there -/
def lnM (M : Mm) (C : Nat → Nat → Bool) (k : Nat) : Nat → Bool := fun c => !decide (M.1 498 k = 0) && !decide (M.1 479 k = nI 2) && C k c
def l1M (M : Mm) (C : Nat → Nat → Bool) (k : Nat) (L : Nat → Nat → Bool) : Nat → Nat → Bool := fun j => if j = k then lnM M C k else L j
def LM (M : Mm) (C L0 : Nat → Nat → Bool) : Nat → Nat → Nat → Bool
  | 0 => L0
  | k + 1 => if ¬ M.1 498 k = 0 ∧ M.1 479 k = nI 2 then ebM M C k (l1M M C k (LM M C L0 k)) k else l1M M C k (LM M C L0 k)
theorem LM_s {M : Mm} {C L0 : Nat → Nat → Bool} {k : Nat} : LM M C L0 (k + 1) = if ¬ M.1 498 k = 0 ∧ M.1 479 k = nI 2 then ebM M C k (l1M M C k (LM M C L0 k)) k else l1M M C k (LM M C L0 k) := rfl
theorem ebM_w {M : Mm} {g : Nat → Int64} {C : Nat → Nat → Bool} {er : Nat} {L : Nat → Nat → Bool} {i : Nat} : ebM (wL M 497 g) C er L i = ebM M C er L i := rfl
def tgE (la : Nat → Int32) (k : Nat) : Option Nat → Bool
  | none => true
  | some j => !decide (la k < la j)
/-- the tops behind the first k operations -/
def tpM (la : Nat → Int32) (vn : Nat → Bool) (L : Nat → Nat → Bool) : Nat → Nat → Option Nat
  | 0 => fun _ => none
  | k + 1 => fun c => if vn k = false ∧ L k c = true ∧ tgE la k (tpM la vn L k c) = true then some k else tpM la vn L k c
theorem tpM_lt {la : Nat → Int32} {vn : Nat → Bool} {L : Nat → Nat → Bool} : ∀ {k c j : Nat}, tpM la vn L k c = some j → j < k
  | 0, c, j, h => by cases h
  | k + 1, c, j, h => by
    unfold tpM at h
    split at h
    · cases h; omega
    · have := tpM_lt h
      omega
def tN (f : Nat → Option Nat) : Nat → Int32 := fun c => numI (f c)
theorem numI_n {o : Option Nat} {n : Nat} (h : ∀ j, o = some j → j < n) (hn : n < 2 ^ 31) : numI o = -1 ↔ o = none := by
  constructor
  · intro e
    cases ho : o with
    | none => rfl
    | some v =>
      rw [ho] at e
      exact absurd e (nI_m1 (by have := h v ho; omega))
  · intro e; rw [e]; rfl
theorem less3d (a b c d : Option Value) : ∀ (i : Nat) (v : Value), ([a, b, c, none] : List (Option Value))[i]? = some (some v) → ([a, b, c, d] : List (Option Value))[i]? = some (some v)
  | 0, _, h => h
  | 1, _, h => h
  | 2, _, h => h
  | 3, _, h => by simp at h
  | n + 4, _, h => by simp at h
set_option maxRecDepth 100000 in
set_option maxHeartbeats 1000000 in
theorem c_X9_layLeft {l : Launch} {E : Ee} {M : Mm} {n : Nat} {L C : Nat → Nat → Bool} (hL : M.2 497 = lws L) (hC : M.2 487 = lws C) (hn : n ≤ 60) : CtV l E yX9_layLeft (.code yX9_layLeft cX9_layLeft 4 none :: gl) ({ frames := 2, cells := 0, slots := 0, locals := 50 } : Room) M [.ref (E.2.2 478), .int (nI n)] 0 0 (fun M2 => M2 = wL M 497 (lws (LM M C L n))) := by
  refine ctV_of (L0 := [some (.ref (E.2.2 478)), some (.int (nI n)), none, none]) (by decide) rfl (Nat.le_of_ble_eq_true rfl) rfl ?_
  intro Z hl hE hnl F ret
  subst hE
  have in_X9 : ∀ w ∈ u_ws RX9 TX9 33, w ∈ (.code yX9_layLeft cX9_layLeft 4 none :: gl) := fun w h => List.mem_cons_of_mem _ (lay_X9 w h)
  have g7 : FG Z 7 9 3 := fg_mk F (C := RX9) (T := TX9) (N := 33) in_X9 rfl (by decide) rfl (List.mem_cons_of_mem _ fk_X9_7)
  have g35 : FG Z 35 9 12 := fg_mk F (C := RX9) (T := TX9) (N := 33) in_X9 rfl (by decide) rfl (List.mem_cons_of_mem _ fk_X9_35)
  have g66 : FG Z 66 9 24 := fg_mk F (C := RX9) (T := TX9) (N := 33) in_X9 rfl (by decide) rfl (List.mem_cons_of_mem _ fk_X9_66)
  have g69 : FG Z 69 9 25 := fg_mk F (C := RX9) (T := TX9) (N := 33) in_X9 rfl (by decide) rfl (List.mem_cons_of_mem _ fk_X9_69)
  have kM := kd_M
  have k479 := kd_479
  have k480 := kd_480
  have k481 := kd_481
  have k482 := kd_482
  have k483 := kd_483
  have k484 := kd_484
  have k485 := kd_485
  have k486 := kd_486
  have k487 := kd_487
  have k488 := kd_488
  have k489 := kd_489
  have k490 := kd_490
  have k491 := kd_491
  have k492 := kd_492
  have k493 := kd_493
  have k494 := kd_494
  have k495 := kd_495
  have k496 := kd_496
  have k497 := kd_497
  have k498 := kd_498
  have k499 := kd_499
  have k500 := kd_500
  have k501 := kd_501
  have k502 := kd_502
  have k503 := kd_503
  have lo : ∀ i, i ≤ n → JJ Z (0, 0) (wL M 497 (lws (LM M C L i))) 2 [some (.ref ((zE Z).2.2 478)), some (.int (nI n)), some (.int (nI i)), none] [] := by
    refine jj_loop n ?_ ?_
    · refine jj_iload_n F dX9_layLeft_2 rfl ?_
      refine jj_iload_n F dX9_layLeft_3 rfl ?_
      refine jj_icmp_ge F (tgt := 93) dX9_layLeft_4 (by decide) (fun _ => ?_) (fun h9 => absurd (nI_le (by omega) (by omega)) h9)
      exact ret _ _ _ dX9_layLeft_93 rfl
    · intro i hi ih
      have j63 : ∀ x3 : Option Value, JJ Z (0, 0) (wL M 497 (lws (l1M M C i (LM M C L i)))) 63 [some (.ref ((zE Z).2.2 478)), some (.int (nI n)), some (.int (nI i)), x3] [] := by
        intro x3
        have hL9 : (wL M 497 (lws (l1M M C i (LM M C L i)))).2 497 = lws (l1M M C i (LM M C L i)) := wL_s _ _ _
        have hC9 : (wL M 497 (lws (l1M M C i (LM M C L i)))).2 487 = lws C := by rw [wL_n (by decide)]; exact hC
        refine jj_aload_n F dX9_layLeft_63 rfl ?_
        refine jj_getr F g69 (by assumption) (by rfl) dX9_layLeft_64 ?_
        refine jj_iload_n F dX9_layLeft_67 rfl ?_
        refine jj_zald F (by assumption) rfl (by omega) dX9_layLeft_68 ?_
        rw [wL_1]
        refine jj_if_eq F (tgt := 87) dX9_layLeft_69 (by decide) (fun h69 => ?_) (fun h69 => ?_)
        · refine jj_iinc F dX9_layLeft_87 rfl (by first | exact iinc1 _ | rfl) (by rw [hnl]; decide) ?_
          dsimp only [lq_st, lq_clr, lq_no]
          refine jj_goto F (tgt := 2) dX9_layLeft_90 (by decide) ?_
          refine jj_less (L2 := [some (.ref ((zE Z).2.2 478)), some (.int (nI n)), some (.int (nI (i + 1))), none]) (less3d _ _ _ _) ?_
          refine jj_eqM ?_ ih
          first
          | (rw [LM_s, if_neg (fun z => z.1 h69)]; done)
          | (rw [LM_s, if_neg (fun z => h79 z.2)]; done)
          | (rw [LM_s, if_pos ⟨h69, h79⟩, wL_wL, ebM_w]; done)
        · refine jj_aload_n F dX9_layLeft_72 rfl ?_
          refine jj_getr F g7 (by assumption) (by rfl) dX9_layLeft_73 ?_
          refine jj_iload_n F dX9_layLeft_76 rfl ?_
          refine jj_iald F (by assumption) rfl (by omega) dX9_layLeft_77 ?_
          rw [wL_1]
          refine jj_iconst F (v := nI 2) dX9_layLeft_78 (by decide) ?_
          refine jj_icmp_ne F (tgt := 87) dX9_layLeft_79 (by decide) (fun h79 => ?_) (fun h79 => ?_)
          · refine jj_iinc F dX9_layLeft_87 rfl (by first | exact iinc1 _ | rfl) (by rw [hnl]; decide) ?_
            dsimp only [lq_st, lq_clr, lq_no]
            refine jj_goto F (tgt := 2) dX9_layLeft_90 (by decide) ?_
            refine jj_less (L2 := [some (.ref ((zE Z).2.2 478)), some (.int (nI n)), some (.int (nI (i + 1))), none]) (less3d _ _ _ _) ?_
            refine jj_eqM ?_ ih
            first
            | (rw [LM_s, if_neg (fun z => z.1 h69)]; done)
            | (rw [LM_s, if_neg (fun z => h79 z.2)]; done)
            | (rw [LM_s, if_pos ⟨h69, h79⟩, wL_wL, ebM_w]; done)
          · refine jj_aload_n F dX9_layLeft_82 rfl ?_
            refine jj_iload_n F dX9_layLeft_83 rfl ?_
            refine jj_callVv (na := 1) F (c_X9_eraseBy hL9 hC9 (by omega)) (gl_V mk_X9_108 vw_X9_eraseBy) rfl rfl rfl (by decide +kernel) ⟨Nat.le_of_ble_eq_true rfl, Nat.le_of_ble_eq_true rfl⟩ (by assumption) rfl rfl rfl (Nat.le_of_ble_eq_true rfl) ⟨Nat.le_of_ble_eq_true rfl, Nat.le_of_ble_eq_true rfl⟩ dX9_layLeft_84 (fun M84 hp84 => ?_)
            obtain rfl := hp84.symm
            refine jj_iinc F dX9_layLeft_87 rfl (by first | exact iinc1 _ | rfl) (by rw [hnl]; decide) ?_
            dsimp only [lq_st, lq_clr, lq_no]
            refine jj_goto F (tgt := 2) dX9_layLeft_90 (by decide) ?_
            refine jj_less (L2 := [some (.ref ((zE Z).2.2 478)), some (.int (nI n)), some (.int (nI (i + 1))), none]) (less3d _ _ _ _) ?_
            refine jj_eqM ?_ ih
            first
            | (rw [LM_s, if_neg (fun z => z.1 h69)]; done)
            | (rw [LM_s, if_neg (fun z => h79 z.2)]; done)
            | (rw [LM_s, if_pos ⟨h69, h79⟩, wL_wL, ebM_w]; done)
      have lw9 : ∀ w, w ≤ 4 → JJ Z (0, 0) (wL M 497 (mixW i w (LM M C L i) (l1M M C i (LM M C L i)))) 9 [some (.ref ((zE Z).2.2 478)), some (.int (nI n)), some (.int (nI i)), some (.int (nI w))] [] := by
        refine jj_loop 4 ?_ ?_
        · refine jj_iload_n F dX9_layLeft_9 rfl ?_
          refine jj_iconst F (v := nI 4) dX9_layLeft_10 (by decide) ?_
          refine jj_icmp_ge F (tgt := 63) dX9_layLeft_11 (by decide) (fun _ => ?_) (fun h9 => absurd (nI_le (by omega) (by omega)) h9)
          rw [mixW_4 (fun j hj => by unfold l1M; rw [if_neg hj])]
          exact j63 _
        · intro w hw ihw
          have hcw : (wL M 497 (mixW i w (LM M C L i) (l1M M C i (LM M C L i)))).2 487 (4 * i + w) = lwOf (C i) w := by rw [wL_n (by decide), hC, lws_w C hw]
          have hnw : lws (l1M M C i (LM M C L i)) (4 * i + w) = lwOf (lnM M C i) w := by rw [lws_w _ hw]; unfold l1M; rw [if_pos rfl]
          refine jj_iload_n F dX9_layLeft_9 rfl ?_
          refine jj_iconst F (v := nI 4) dX9_layLeft_10 (by decide) ?_
          refine jj_icmp_ge F (tgt := 63) dX9_layLeft_11 (by decide) (fun h9 => absurd h9 (nI_ge (by omega) (by omega))) (fun _ => ?_)
          refine jj_aload_n F dX9_layLeft_14 rfl ?_
          refine jj_getr F g66 (by assumption) (by rfl) dX9_layLeft_15 ?_
          refine jj_iconst F (v := nI 4) dX9_layLeft_18 (by decide) ?_
          refine jj_iload_n F dX9_layLeft_19 rfl ?_
          refine jj_imul F dX9_layLeft_20 ?_
          rw [pk_mul]
          refine jj_iload_n F dX9_layLeft_21 rfl ?_
          refine jj_iadd F dX9_layLeft_22 ?_
          rw [nI_add]
          refine jj_aload_n F dX9_layLeft_23 rfl ?_
          refine jj_getr F g69 (by assumption) (by rfl) dX9_layLeft_24 ?_
          refine jj_iload_n F dX9_layLeft_27 rfl ?_
          refine jj_zald F (by assumption) rfl (by omega) dX9_layLeft_28 ?_
          rw [wL_1]
          refine jj_if_eq F (tgt := 55) dX9_layLeft_29 (by decide) (fun h29 => ?_) (fun h29 => ?_)
          · refine jj_lconst F (v := lN 0) dX9_layLeft_55 (by decide) ?_
            refine jj_last F (by assumption) rfl (by omega) dX9_layLeft_56 ?_
            refine jj_iinc F dX9_layLeft_57 rfl (by first | exact iinc1 _ | rfl) (by rw [hnl]; decide) ?_
            dsimp only [lq_st, lq_clr, lq_no]
            refine jj_goto F (tgt := 9) dX9_layLeft_60 (by decide) ?_
            rw [wL_wL, wL_s, mixW_s hw ?_]
            · exact ihw
            · rw [hnw]
              first
              | (rw [lw_0 w]; refine lw_cong (fun x _ => ?_); simp only [lnM, h29, decide_true, Bool.not_true, Bool.false_and]; done)
              | (rw [lw_0 w]; refine lw_cong (fun x _ => ?_); simp only [lnM, h39, decide_true, Bool.not_true, Bool.and_false, Bool.false_and]; done)
              | (refine lw_cong (fun x _ => ?_); simp only [lnM, h29, h39, decide_false, Bool.not_false, Bool.true_and])
          · refine jj_aload_n F dX9_layLeft_32 rfl ?_
            refine jj_getr F g7 (by assumption) (by rfl) dX9_layLeft_33 ?_
            refine jj_iload_n F dX9_layLeft_36 rfl ?_
            refine jj_iald F (by assumption) rfl (by omega) dX9_layLeft_37 ?_
            rw [wL_1]
            refine jj_iconst F (v := nI 2) dX9_layLeft_38 (by decide) ?_
            refine jj_icmp_eq F (tgt := 55) dX9_layLeft_39 (by decide) (fun h39 => ?_) (fun h39 => ?_)
            · refine jj_lconst F (v := lN 0) dX9_layLeft_55 (by decide) ?_
              refine jj_last F (by assumption) rfl (by omega) dX9_layLeft_56 ?_
              refine jj_iinc F dX9_layLeft_57 rfl (by first | exact iinc1 _ | rfl) (by rw [hnl]; decide) ?_
              dsimp only [lq_st, lq_clr, lq_no]
              refine jj_goto F (tgt := 9) dX9_layLeft_60 (by decide) ?_
              rw [wL_wL, wL_s, mixW_s hw ?_]
              · exact ihw
              · rw [hnw]
                first
                | (rw [lw_0 w]; refine lw_cong (fun x _ => ?_); simp only [lnM, h29, decide_true, Bool.not_true, Bool.false_and]; done)
                | (rw [lw_0 w]; refine lw_cong (fun x _ => ?_); simp only [lnM, h39, decide_true, Bool.not_true, Bool.and_false, Bool.false_and]; done)
                | (refine lw_cong (fun x _ => ?_); simp only [lnM, h29, h39, decide_false, Bool.not_false, Bool.true_and])
            · refine jj_aload_n F dX9_layLeft_42 rfl ?_
              refine jj_getr F g35 (by assumption) (by rfl) dX9_layLeft_43 ?_
              refine jj_iconst F (v := nI 4) dX9_layLeft_46 (by decide) ?_
              refine jj_iload_n F dX9_layLeft_47 rfl ?_
              refine jj_imul F dX9_layLeft_48 ?_
              rw [pk_mul]
              refine jj_iload_n F dX9_layLeft_49 rfl ?_
              refine jj_iadd F dX9_layLeft_50 ?_
              rw [nI_add]
              refine jj_lald F (by assumption) rfl (by omega) dX9_layLeft_51 ?_
              rw [hcw]
              refine jj_goto F (tgt := 56) dX9_layLeft_52 (by decide) ?_
              refine jj_last F (by assumption) rfl (by omega) dX9_layLeft_56 ?_
              refine jj_iinc F dX9_layLeft_57 rfl (by first | exact iinc1 _ | rfl) (by rw [hnl]; decide) ?_
              dsimp only [lq_st, lq_clr, lq_no]
              refine jj_goto F (tgt := 9) dX9_layLeft_60 (by decide) ?_
              rw [wL_wL, wL_s, mixW_s hw ?_]
              · exact ihw
              · rw [hnw]
                first
                | (rw [lw_0 w]; refine lw_cong (fun x _ => ?_); simp only [lnM, h29, decide_true, Bool.not_true, Bool.false_and]; done)
                | (rw [lw_0 w]; refine lw_cong (fun x _ => ?_); simp only [lnM, h39, decide_true, Bool.not_true, Bool.and_false, Bool.false_and]; done)
                | (refine lw_cong (fun x _ => ?_); simp only [lnM, h29, h39, decide_false, Bool.not_false, Bool.true_and])
      refine jj_iload_n F dX9_layLeft_2 rfl ?_
      refine jj_iload_n F dX9_layLeft_3 rfl ?_
      refine jj_icmp_ge F (tgt := 93) dX9_layLeft_4 (by decide) (fun h9 => absurd h9 (nI_ge (by omega) (by omega))) (fun _ => ?_)
      refine jj_iconst F (v := nI 0) dX9_layLeft_7 (by decide) ?_
      refine jj_istore_n F dX9_layLeft_8 (by rw [hnl]; decide) ?_
      dsimp only [lq_st, lq_clr, lq_no]
      refine jj_eqM ?_ (lw9 0 (by omega))
      rw [mixW_0]
  refine jj_iconst F (v := nI 0) dX9_layLeft_0 (by decide) ?_
  refine jj_istore_n F dX9_layLeft_1 (by rw [hnl]; decide) ?_
  dsimp only [lq_st, lq_clr, lq_no]
  refine jj_eqM ?_ (lo 0 (by omega))
  show M = wL M 497 (lws L)
  rw [← hL, wL_same]
set_option maxRecDepth 100000 in
set_option maxHeartbeats 1000000 in
theorem c_X9_layTop {l : Launch} {E : Ee} {M : Mm} {n : Nat} {t : Int32} {L : Nat → Nat → Bool} (hL : M.2 497 = lws L) (hn : n ≤ 60) : CtV l E yX9_layTop (.code yX9_layTop cX9_layTop 6 none :: gl) ({ frames := 1, cells := 0, slots := 0, locals := 22 } : Room) M [.ref (E.2.2 478), .int (nI n), .int t] 0 0 (fun M2 => M2 = wA M 499 (tN (tpM (M.1 481) (fun k => vanI (M.1 483 k) (M.1 484 k) t) L n))) := by
  refine ctV_of (L0 := [some (.ref (E.2.2 478)), some (.int (nI n)), some (.int t), none, none, none]) (by decide) rfl (Nat.le_of_ble_eq_true rfl) rfl ?_
  intro Z hl hE hnl F ret
  subst hE
  have in_X9 : ∀ w ∈ u_ws RX9 TX9 33, w ∈ (.code yX9_layTop cX9_layTop 6 none :: gl) := fun w h => List.mem_cons_of_mem _ (lay_X9 w h)
  have g16 : FG Z 16 9 5 := fg_mk F (C := RX9) (T := TX9) (N := 33) in_X9 rfl (by decide) rfl (List.mem_cons_of_mem _ fk_X9_16)
  have g66 : FG Z 66 9 24 := fg_mk F (C := RX9) (T := TX9) (N := 33) in_X9 rfl (by decide) rfl (List.mem_cons_of_mem _ fk_X9_66)
  have g72 : FG Z 72 9 26 := fg_mk F (C := RX9) (T := TX9) (N := 33) in_X9 rfl (by decide) rfl (List.mem_cons_of_mem _ fk_X9_72)
  have kM := kd_M
  have k479 := kd_479
  have k480 := kd_480
  have k481 := kd_481
  have k482 := kd_482
  have k483 := kd_483
  have k484 := kd_484
  have k485 := kd_485
  have k486 := kd_486
  have k487 := kd_487
  have k488 := kd_488
  have k489 := kd_489
  have k490 := kd_490
  have k491 := kd_491
  have k492 := kd_492
  have k493 := kd_493
  have k494 := kd_494
  have k495 := kd_495
  have k496 := kd_496
  have k497 := kd_497
  have k498 := kd_498
  have k499 := kd_499
  have k500 := kd_500
  have k501 := kd_501
  have k502 := kd_502
  have k503 := kd_503
  have lo : ∀ k, k ≤ n → JJ Z (0, 0) (wA M 499 (tN (tpM (M.1 481) (fun k => vanI (M.1 483 k) (M.1 484 k) t) L k))) 24 [some (.ref ((zE Z).2.2 478)), some (.int (nI n)), some (.int t), some (.int (nI k)), none, none] [] := by
    refine jj_loop n ?_ ?_
    · refine jj_iload_n F dX9_layTop_24 rfl ?_
      refine jj_iload_n F dX9_layTop_25 rfl ?_
      refine jj_icmp_ge F (tgt := 136) dX9_layTop_26 (by decide) (fun _ => ?_) (fun h9 => absurd (nI_le (by omega) (by omega)) h9)
      exact ret _ _ _ dX9_layTop_136 rfl
    · intro k hk ihk
      have lc9 : vanI (M.1 483 k) (M.1 484 k) t = false → ∀ c, c ≤ 256 → JJ Z (0, 0) (wA M 499 (fl c (tN (tpM (M.1 481) (fun k => vanI (M.1 483 k) (M.1 484 k) t) L (k + 1))) (tN (tpM (M.1 481) (fun k => vanI (M.1 483 k) (M.1 484 k) t) L k)))) 41 [some (.ref ((zE Z).2.2 478)), some (.int (nI n)), some (.int t), some (.int (nI k)), some (.int (nI c)), none] [] := by
        intro hv
        refine jj_loop 256 ?_ ?_
        · refine jj_iload F dX9_layTop_41 rfl ?_
          refine jj_sipush F (v := nI 256) dX9_layTop_43 (by decide) ?_
          refine jj_icmp_ge F (tgt := 130) dX9_layTop_46 (by decide) (fun _ => ?_) (fun h9 => absurd (nI_le (by omega) (by omega)) h9)
          refine jj_eqv (meq_fl k499) ?_
          refine jj_iinc F dX9_layTop_130 rfl (iinc1 _) (by rw [hnl]; decide) ?_
          dsimp only [lq_st, lq_clr, lq_no]
          refine jj_goto F (tgt := 24) dX9_layTop_133 (by decide) ?_
          refine jj_less (L2 := [some (.ref ((zE Z).2.2 478)), some (.int (nI n)), some (.int t), some (.int (nI (k + 1))), none, none]) (less4 _ _ _ _ _ _) ?_
          exact ihk
        · intro c hc ihc
          have hL9 : (wA M 499 (fl c (tN (tpM (M.1 481) (fun k => vanI (M.1 483 k) (M.1 484 k) t) L (k + 1))) (tN (tpM (M.1 481) (fun k => vanI (M.1 483 k) (M.1 484 k) t) L k)))).2 497 = lws L := hL
          have htc : (wA M 499 (fl c (tN (tpM (M.1 481) (fun k => vanI (M.1 483 k) (M.1 484 k) t) L (k + 1))) (tN (tpM (M.1 481) (fun k => vanI (M.1 483 k) (M.1 484 k) t) L k)))).1 499 c = numI ((tpM (M.1 481) (fun k => vanI (M.1 483 k) (M.1 484 k) t) L k) c) := by rw [wA_s, fl_out (by omega)]; rfl
          have hlt : ∀ j, (tpM (M.1 481) (fun k => vanI (M.1 483 k) (M.1 484 k) t) L k) c = some j → j < 60 := fun j hj => by have := tpM_lt hj; omega
          have hm1 := numI_n (o := (tpM (M.1 481) (fun k => vanI (M.1 483 k) (M.1 484 k) t) L k) c) hlt (by omega)
          have hB9 : ∀ b : Bool, (b = true → (tpM (M.1 481) (fun k => vanI (M.1 483 k) (M.1 484 k) t) L (k + 1)) c = some k) → (b = false → (tpM (M.1 481) (fun k => vanI (M.1 483 k) (M.1 484 k) t) L (k + 1)) c = (tpM (M.1 481) (fun k => vanI (M.1 483 k) (M.1 484 k) t) L k) c) → JJ Z (0, 0) (wA M 499 (fl c (tN (tpM (M.1 481) (fun k => vanI (M.1 483 k) (M.1 484 k) t) L (k + 1))) (tN (tpM (M.1 481) (fun k => vanI (M.1 483 k) (M.1 484 k) t) L k)))) 99 [some (.ref ((zE Z).2.2 478)), some (.int (nI n)), some (.int t), some (.int (nI k)), some (.int (nI c)), none] [.int (b2i b)] := by
            intro b hb1 hb0
            refine jj_istore F dX9_layTop_99 (by rw [hnl]; decide) ?_
            dsimp only [lq_st, lq_clr, lq_no]
            refine jj_aload_n F dX9_layTop_101 rfl ?_
            refine jj_getr F g72 (by assumption) (by rfl) dX9_layTop_102 ?_
            refine jj_iload F dX9_layTop_105 rfl ?_
            refine jj_iload F dX9_layTop_107 rfl ?_
            refine jj_if_eq F (tgt := 116) dX9_layTop_109 (by decide) (fun h109 => ?_) (fun h109 => ?_)
            · refine jj_aload_n F dX9_layTop_116 rfl ?_
              refine jj_getr F g72 (by assumption) (by rfl) dX9_layTop_117 ?_
              refine jj_iload F dX9_layTop_120 rfl ?_
              refine jj_iald F (by assumption) rfl (by omega) dX9_layTop_122 ?_
              rw [htc]
              refine jj_iast F (by assumption) rfl (by omega) dX9_layTop_123 ?_
              refine jj_iinc F dX9_layTop_124 rfl (by first | exact iinc1 _ | rfl) (by rw [hnl]; decide) ?_
              dsimp only [lq_st, lq_clr, lq_no]
              refine jj_goto F (tgt := 41) dX9_layTop_127 (by decide) ?_
              refine jj_less (L2 := [some (.ref ((zE Z).2.2 478)), some (.int (nI n)), some (.int t), some (.int (nI k)), some (.int (nI (c + 1))), none]) (less5 _ _ _ _ _ _) ?_
              rw [fl_put ?_]
              · exact ihc
              · first
                | (rw [b2i_n0] at h109; show nI k = numI ((tpM (M.1 481) (fun k => vanI (M.1 483 k) (M.1 484 k) t) L (k + 1)) c); rw [hb1 h109]; rfl)
                | (rw [b2i_0] at h109; show _ = numI ((tpM (M.1 481) (fun k => vanI (M.1 483 k) (M.1 484 k) t) L (k + 1)) c); rw [hb0 h109])
            · refine jj_iload_n F dX9_layTop_112 rfl ?_
              refine jj_goto F (tgt := 123) dX9_layTop_113 (by decide) ?_
              refine jj_iast F (by assumption) rfl (by omega) dX9_layTop_123 ?_
              refine jj_iinc F dX9_layTop_124 rfl (by first | exact iinc1 _ | rfl) (by rw [hnl]; decide) ?_
              dsimp only [lq_st, lq_clr, lq_no]
              refine jj_goto F (tgt := 41) dX9_layTop_127 (by decide) ?_
              refine jj_less (L2 := [some (.ref ((zE Z).2.2 478)), some (.int (nI n)), some (.int t), some (.int (nI k)), some (.int (nI (c + 1))), none]) (less5 _ _ _ _ _ _) ?_
              rw [fl_put ?_]
              · exact ihc
              · first
                | (rw [b2i_n0] at h109; show nI k = numI ((tpM (M.1 481) (fun k => vanI (M.1 483 k) (M.1 484 k) t) L (k + 1)) c); rw [hb1 h109]; rfl)
                | (rw [b2i_0] at h109; show _ = numI ((tpM (M.1 481) (fun k => vanI (M.1 483 k) (M.1 484 k) t) L (k + 1)) c); rw [hb0 h109])
          refine jj_iload F dX9_layTop_41 rfl ?_
          refine jj_sipush F (v := nI 256) dX9_layTop_43 (by decide) ?_
          refine jj_icmp_ge F (tgt := 130) dX9_layTop_46 (by decide) (fun h9 => absurd h9 (nI_ge (by omega) (by omega))) (fun _ => ?_)
          refine jj_aload_n F dX9_layTop_49 rfl ?_
          refine jj_getr F g66 (by assumption) (by rfl) dX9_layTop_50 ?_
          refine jj_iload_n F dX9_layTop_53 rfl ?_
          refine jj_iload F dX9_layTop_54 rfl ?_
          refine jj_callSi (na := 3) F (c_X9_hasIn k497 hL9 (by omega) (by omega)) (gl_S mk_X9_115 vw_X9_hasIn) rfl rfl rfl (by decide +kernel) ⟨Nat.le_of_ble_eq_true rfl, Nat.le_of_ble_eq_true rfl⟩ rfl rfl (Nat.le_of_ble_eq_true rfl) ⟨Nat.le_of_ble_eq_true rfl, Nat.le_of_ble_eq_true rfl⟩ dX9_layTop_56 (fun r56 M56 hp56 => ?_)
          obtain ⟨rfl, rfl⟩ := symm2 hp56
          refine jj_if_eq F (tgt := 98) dX9_layTop_59 (by decide) (fun h59 => ?_) (fun h59 => ?_)
          · refine jj_iconst F (v := nI 0) dX9_layTop_98 (by decide) ?_
            first
            | (rw [b2i_0] at h59; exact hB9 false (fun h => by cases h) (fun _ => by show (if _ then _ else _) = _; rw [if_neg (fun z => by rw [h59] at z; exact absurd z.2.1 (by decide))]))
            | (rw [b2i_n0] at h59; have ho := hm1.mp h70; exact hB9 true (fun _ => by show (if _ then _ else _) = _; rw [if_pos ⟨hv, h59, by rw [ho]; rfl⟩]) (fun h => by cases h))
            | (rw [b2i_n0] at h59; exact hB9 false (fun h => by cases h) (fun _ => by show (if _ then _ else _) = _; rw [if_neg (fun z => by have z3 := z.2.2; rw [hj9] at z3; simp [tgE, h91] at z3)]))
            | (rw [b2i_n0] at h59; exact hB9 true (fun _ => by show (if _ then _ else _) = _; rw [if_pos ⟨hv, h59, by rw [hj9]; simp [tgE, h91]⟩]) (fun h => by cases h))
          · refine jj_aload_n F dX9_layTop_62 rfl ?_
            refine jj_getr F g72 (by assumption) (by rfl) dX9_layTop_63 ?_
            refine jj_iload F dX9_layTop_66 rfl ?_
            refine jj_iald F (by assumption) rfl (by omega) dX9_layTop_68 ?_
            rw [htc]
            refine jj_iconst F (v := -1) dX9_layTop_69 (by decide) ?_
            refine jj_icmp_eq F (tgt := 94) dX9_layTop_70 (by decide) (fun h70 => ?_) (fun h70 => ?_)
            · refine jj_iconst F (v := nI 1) dX9_layTop_94 (by decide) ?_
              refine jj_goto F (tgt := 99) dX9_layTop_95 (by decide) ?_
              first
              | (rw [b2i_0] at h59; exact hB9 false (fun h => by cases h) (fun _ => by show (if _ then _ else _) = _; rw [if_neg (fun z => by rw [h59] at z; exact absurd z.2.1 (by decide))]))
              | (rw [b2i_n0] at h59; have ho := hm1.mp h70; exact hB9 true (fun _ => by show (if _ then _ else _) = _; rw [if_pos ⟨hv, h59, by rw [ho]; rfl⟩]) (fun h => by cases h))
              | (rw [b2i_n0] at h59; exact hB9 false (fun h => by cases h) (fun _ => by show (if _ then _ else _) = _; rw [if_neg (fun z => by have z3 := z.2.2; rw [hj9] at z3; simp [tgE, h91] at z3)]))
              | (rw [b2i_n0] at h59; exact hB9 true (fun _ => by show (if _ then _ else _) = _; rw [if_pos ⟨hv, h59, by rw [hj9]; simp [tgE, h91]⟩]) (fun h => by cases h))
            · refine jj_aload_n F dX9_layTop_73 rfl ?_
              refine jj_getr F g16 (by assumption) (by rfl) dX9_layTop_74 ?_
              refine jj_iload_n F dX9_layTop_77 rfl ?_
              refine jj_iald F (by assumption) rfl (by omega) dX9_layTop_78 ?_
              rw [wA_n (by decide)]
              refine jj_aload_n F dX9_layTop_79 rfl ?_
              refine jj_getr F g16 (by assumption) (by rfl) dX9_layTop_80 ?_
              refine jj_aload_n F dX9_layTop_83 rfl ?_
              refine jj_getr F g72 (by assumption) (by rfl) dX9_layTop_84 ?_
              refine jj_iload F dX9_layTop_87 rfl ?_
              refine jj_iald F (by assumption) rfl (by omega) dX9_layTop_89 ?_
              rw [htc]
              obtain ⟨j9, hj9⟩ : ∃ j, (tpM (M.1 481) (fun k => vanI (M.1 483 k) (M.1 484 k) t) L k) c = some j := by
                cases ho : (tpM (M.1 481) (fun k => vanI (M.1 483 k) (M.1 484 k) t) L k) c with
                | none => exact absurd (hm1.mpr ho) h70
                | some j => exact ⟨j, rfl⟩
              have hj60 := hlt j9 hj9
              rw [hj9]
              refine jj_iald F (by assumption) (show numI (some j9) = nI j9 from rfl) (by omega) dX9_layTop_90 ?_
              rw [wA_n (by decide)]
              refine jj_icmp_lt F (tgt := 98) dX9_layTop_91 (by decide) (fun h91 => ?_) (fun h91 => ?_)
              · refine jj_iconst F (v := nI 0) dX9_layTop_98 (by decide) ?_
                first
                | (rw [b2i_0] at h59; exact hB9 false (fun h => by cases h) (fun _ => by show (if _ then _ else _) = _; rw [if_neg (fun z => by rw [h59] at z; exact absurd z.2.1 (by decide))]))
                | (rw [b2i_n0] at h59; have ho := hm1.mp h70; exact hB9 true (fun _ => by show (if _ then _ else _) = _; rw [if_pos ⟨hv, h59, by rw [ho]; rfl⟩]) (fun h => by cases h))
                | (rw [b2i_n0] at h59; exact hB9 false (fun h => by cases h) (fun _ => by show (if _ then _ else _) = _; rw [if_neg (fun z => by have z3 := z.2.2; rw [hj9] at z3; simp [tgE, h91] at z3)]))
                | (rw [b2i_n0] at h59; exact hB9 true (fun _ => by show (if _ then _ else _) = _; rw [if_pos ⟨hv, h59, by rw [hj9]; simp [tgE, h91]⟩]) (fun h => by cases h))
              · refine jj_iconst F (v := nI 1) dX9_layTop_94 (by decide) ?_
                refine jj_goto F (tgt := 99) dX9_layTop_95 (by decide) ?_
                first
                | (rw [b2i_0] at h59; exact hB9 false (fun h => by cases h) (fun _ => by show (if _ then _ else _) = _; rw [if_neg (fun z => by rw [h59] at z; exact absurd z.2.1 (by decide))]))
                | (rw [b2i_n0] at h59; have ho := hm1.mp h70; exact hB9 true (fun _ => by show (if _ then _ else _) = _; rw [if_pos ⟨hv, h59, by rw [ho]; rfl⟩]) (fun h => by cases h))
                | (rw [b2i_n0] at h59; exact hB9 false (fun h => by cases h) (fun _ => by show (if _ then _ else _) = _; rw [if_neg (fun z => by have z3 := z.2.2; rw [hj9] at z3; simp [tgE, h91] at z3)]))
                | (rw [b2i_n0] at h59; exact hB9 true (fun _ => by show (if _ then _ else _) = _; rw [if_pos ⟨hv, h59, by rw [hj9]; simp [tgE, h91]⟩]) (fun h => by cases h))
      refine jj_iload_n F dX9_layTop_24 rfl ?_
      refine jj_iload_n F dX9_layTop_25 rfl ?_
      refine jj_icmp_ge F (tgt := 136) dX9_layTop_26 (by decide) (fun h9 => absurd h9 (nI_ge (by omega) (by omega))) (fun _ => ?_)
      refine jj_aload_n F dX9_layTop_29 rfl ?_
      refine jj_iload_n F dX9_layTop_30 rfl ?_
      refine jj_iload_n F dX9_layTop_31 rfl ?_
      refine jj_callVi (na := 2) F (c_X9_isVanished (by omega)) (gl_V mk_X9_112 vw_X9_isVanished) rfl rfl rfl (by decide +kernel) ⟨Nat.le_of_ble_eq_true rfl, Nat.le_of_ble_eq_true rfl⟩ (by assumption) rfl rfl rfl (Nat.le_of_ble_eq_true rfl) ⟨Nat.le_of_ble_eq_true rfl, Nat.le_of_ble_eq_true rfl⟩ dX9_layTop_32 (fun r32 M32 hp32 => ?_)
      obtain ⟨rfl, rfl⟩ := symm2 hp32
      rw [wA_n (by decide), wA_n (by decide)]
      refine jj_if_ne F (tgt := 130) dX9_layTop_35 (by decide) (fun h35 => ?_) (fun h35 => ?_)
      · rw [b2i_n0] at h35
        have hs9 : (tpM (M.1 481) (fun k => vanI (M.1 483 k) (M.1 484 k) t) L (k + 1)) = (tpM (M.1 481) (fun k => vanI (M.1 483 k) (M.1 484 k) t) L k) := by funext c; show (if _ then _ else _) = _; rw [if_neg (fun z => by have z1 := z.1; dsimp only at z1; rw [show vanI (M.1 483 k) (M.1 484 k) t = true from h35] at z1; cases z1)]
        rw [← hs9]
        refine jj_iinc F dX9_layTop_130 rfl (iinc1 _) (by rw [hnl]; decide) ?_
        dsimp only [lq_st, lq_clr, lq_no]
        refine jj_goto F (tgt := 24) dX9_layTop_133 (by decide) ?_
        refine jj_less (L2 := [some (.ref ((zE Z).2.2 478)), some (.int (nI n)), some (.int t), some (.int (nI (k + 1))), none, none]) (less4 _ _ _ _ _ _) ?_
        exact ihk
      · refine jj_iconst F (v := nI 0) dX9_layTop_38 (by decide) ?_
        refine jj_istore F dX9_layTop_39 (by rw [hnl]; decide) ?_
        dsimp only [lq_st, lq_clr, lq_no]
        rw [b2i_0] at h35
        refine jj_eqM ?_ (lc9 h35 0 (by omega))
        rw [fl_z]
  have l0 : ∀ i, i ≤ 256 → JJ Z (0, 0) (wA M 499 (fl i (fun _ => -1) (M.1 499))) 2 [some (.ref ((zE Z).2.2 478)), some (.int (nI n)), some (.int t), some (.int (nI i)), none, none] [] := by
    refine jj_loop (256) ?_ ?_
    · refine jj_iload_n F dX9_layTop_2 rfl ?_
      refine jj_sipush F (v := nI 256) dX9_layTop_3 (by decide) ?_
      refine jj_icmp_ge F (tgt := 22) dX9_layTop_6 (by decide) (fun _ => ?_) (fun h9 => absurd (nI_le (by omega) (by omega)) h9)
      refine jj_iconst F (v := nI 0) dX9_layTop_22 (by decide) ?_
      refine jj_istore_n F dX9_layTop_23 (by rw [hnl]; decide) ?_
      dsimp only [lq_st, lq_clr, lq_no]
      refine jj_eqv (meq_fl k499) ?_
      exact lo 0 (by omega)
    · intro i hi ih
      refine jj_iload_n F dX9_layTop_2 rfl ?_
      refine jj_sipush F (v := nI 256) dX9_layTop_3 (by decide) ?_
      refine jj_icmp_ge F (tgt := 22) dX9_layTop_6 (by decide) (fun h9 => absurd h9 (nI_ge (by omega) (by omega))) (fun _ => ?_)
      refine jj_aload_n F dX9_layTop_9 rfl ?_
      refine jj_getr F g72 (by assumption) (by rfl) dX9_layTop_10 ?_
      refine jj_iload_n F dX9_layTop_13 rfl ?_
      refine jj_iconst F (v := -1) dX9_layTop_14 (by decide) ?_
      refine jj_iast F (by assumption) rfl (by omega) dX9_layTop_15 ?_
      refine jj_iinc F dX9_layTop_16 rfl (by first | exact iinc1 _ | rfl) (by rw [hnl]; decide) ?_
      dsimp only [lq_st, lq_clr, lq_no]
      refine jj_goto F (tgt := 2) dX9_layTop_19 (by decide) ?_
      rw [fl_put rfl]
      exact ih
  refine jj_iconst F (v := nI 0) dX9_layTop_0 (by decide) ?_
  refine jj_istore_n F dX9_layTop_1 (by rw [hnl]; decide) ?_
  dsimp only [lq_st, lq_clr, lq_no]
  refine jj_eqM (fl_0 M 499 (fun _ => -1)) ?_
  exact l0 0 (by omega)
