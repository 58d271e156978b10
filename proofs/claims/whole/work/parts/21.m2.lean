/-! the reference's sets left, and its tops -/
def isE (M : Mm) (er j : Nat) : Bool := !decide (M.1 479 j = nI 2) && decide (M.1 481 j ≤ M.1 481 er) && (decide (M.1 482 er < nI 2) || decide (M.1 480 j = M.1 480 er))
def erM (kind : Int32) (is : Bool) (S D : Nat → Bool) : Nat → Bool := if is = true then (if kind = nI 1 then (if exB 256 (fun c => S c && D c) = true then (fun _ => false) else S) else (fun c => S c && !D c)) else S
def ebM (M : Mm) (C : Nat → Nat → Bool) (er : Nat) (L : Nat → Nat → Bool) (i : Nat) : Nat → Nat → Bool := fun j => if j < i then erM (M.1 482 er) (isE M er j) (L j) (C er) else L j
def mixW (i w : Nat) (A B : Nat → Nat → Bool) : Nat → Int64 := fun q => if q / 4 = i ∧ q % 4 < w then lws B q else lws A q
theorem mixW_0 (i : Nat) (A B : Nat → Nat → Bool) : mixW i 0 A B = lws A := by funext q; unfold mixW; rw [if_neg (by omega)]
theorem mixW_s {i w : Nat} {A B : Nat → Nat → Bool} {v : Int64} (hw : w < 4) (hv : v = lws B (4 * i + w)) : vp_updL (mixW i w A B) (4 * i + w) v = mixW i (w + 1) A B := by
  funext q
  by_cases h : q = 4 * i + w
  · subst h
    simp only [vp_updL, if_true, mixW, hv]
    rw [if_pos ⟨by omega, by omega⟩]
  · simp only [vp_updL, if_neg h, mixW]
    by_cases q2 : q / 4 = i ∧ q % 4 < w
    · rw [if_pos q2, if_pos ⟨q2.1, by omega⟩]
    · rw [if_neg q2, if_neg (fun z => q2 ⟨z.1, by omega⟩)]
theorem mixW_4 {i : Nat} {A B : Nat → Nat → Bool} (h : ∀ j, j ≠ i → A j = B j) : mixW i 4 A B = lws B := by
  funext q
  unfold mixW
  by_cases e : q / 4 = i
  · rw [if_pos ⟨e, by omega⟩]
  · rw [if_neg (fun z => e z.1)]
    unfold lws
    rw [h _ e]
theorem mixW_at {i w : Nat} {A B : Nat → Nat → Bool} (hw : w < 4) : mixW i w A B (4 * i + w) = lwOf (A i) w := by
  unfold mixW
  rw [if_neg (by omega), lws_w A hw]
theorem ebM_keep {M : Mm} {C : Nat → Nat → Bool} {er i : Nat} {L : Nat → Nat → Bool} : ∀ j, j ≠ i → ebM M C er L i j = ebM M C er L (i + 1) j := by
  intro j hj
  unfold ebM
  by_cases q : j < i
  · rw [if_pos q, if_pos (by omega)]
  · rw [if_neg q, if_neg (by omega)]
theorem ebM_i {M : Mm} {C : Nat → Nat → Bool} {er i : Nat} {L : Nat → Nat → Bool} : ebM M C er L i i = L i := by unfold ebM; rw [if_neg (by omega)]
theorem ebM_n {M : Mm} {C : Nat → Nat → Bool} {er i : Nat} {L : Nat → Nat → Bool} : ebM M C er L (i + 1) i = erM (M.1 482 er) (isE M er i) (L i) (C er) := by unfold ebM; rw [if_pos (by omega)]
theorem ebM_no {M : Mm} {C : Nat → Nat → Bool} {er i : Nat} {L : Nat → Nat → Bool} (h : isE M er i = false) : ebM M C er L i = ebM M C er L (i + 1) := by
  funext j
  by_cases q : j = i
  · subst q
    rw [ebM_i, ebM_n, h]
    simp [erM]
  · exact ebM_keep j q
theorem less7c (a b c d e f g : Option Value) : ∀ (i : Nat) (v : Value), ([a, b, c, d, none, none, none] : List (Option Value))[i]? = some (some v) → ([a, b, c, d, e, f, g] : List (Option Value))[i]? = some (some v)
  | 0, _, h => h
  | 1, _, h => h
  | 2, _, h => h
  | 3, _, h => h
  | 4, _, h => by simp at h
  | 5, _, h => by simp at h
  | 6, _, h => by simp at h
  | n + 7, _, h => by simp at h
set_option maxRecDepth 100000 in
set_option maxHeartbeats 1000000 in
theorem c_X9_eraseBy {l : Launch} {E : Ee} {M : Mm} {er : Nat} {L C : Nat → Nat → Bool} (hL : M.2 497 = lws L) (hC : M.2 487 = lws C) (her : er < 60) : CtV l E yX9_eraseBy (.code yX9_eraseBy cX9_eraseBy 7 none :: gl) ({ frames := 1, cells := 0, slots := 0, locals := 24 } : Room) M [.ref (E.2.2 478), .int (nI er)] 0 0 (fun M2 => M2 = wL M 497 (lws (ebM M C er L er))) := by
  refine ctV_of (L0 := [some (.ref (E.2.2 478)), some (.int (nI er)), none, none, none, none, none]) (by decide) rfl (Nat.le_of_ble_eq_true rfl) rfl ?_
  intro Z hl hE hnl F ret
  subst hE
  have in_X9 : ∀ w ∈ u_ws RX9 TX9 33, w ∈ (.code yX9_eraseBy cX9_eraseBy 7 none :: gl) := fun w h => List.mem_cons_of_mem _ (lay_X9 w h)
  have g7 : FG Z 7 9 3 := fg_mk F (C := RX9) (T := TX9) (N := 33) in_X9 rfl (by decide) rfl (List.mem_cons_of_mem _ fk_X9_7)
  have g13 : FG Z 13 9 4 := fg_mk F (C := RX9) (T := TX9) (N := 33) in_X9 rfl (by decide) rfl (List.mem_cons_of_mem _ fk_X9_13)
  have g16 : FG Z 16 9 5 := fg_mk F (C := RX9) (T := TX9) (N := 33) in_X9 rfl (by decide) rfl (List.mem_cons_of_mem _ fk_X9_16)
  have g19 : FG Z 19 9 6 := fg_mk F (C := RX9) (T := TX9) (N := 33) in_X9 rfl (by decide) rfl (List.mem_cons_of_mem _ fk_X9_19)
  have g35 : FG Z 35 9 12 := fg_mk F (C := RX9) (T := TX9) (N := 33) in_X9 rfl (by decide) rfl (List.mem_cons_of_mem _ fk_X9_35)
  have g66 : FG Z 66 9 24 := fg_mk F (C := RX9) (T := TX9) (N := 33) in_X9 rfl (by decide) rfl (List.mem_cons_of_mem _ fk_X9_66)
  have kM := kd_M
  have k479 := kd_479
  have k480 := kd_480
  have k481 := kd_481
  have k482 := kd_482
  have k483 := kd_483
  have k484 := kd_484
  have k485 := kd_485
  have k486 := kd_486
  have k487 := kd_487
  have k488 := kd_488
  have k489 := kd_489
  have k490 := kd_490
  have k491 := kd_491
  have k492 := kd_492
  have k493 := kd_493
  have k494 := kd_494
  have k495 := kd_495
  have k496 := kd_496
  have k497 := kd_497
  have k498 := kd_498
  have k499 := kd_499
  have k500 := kd_500
  have k501 := kd_501
  have k502 := kd_502
  have k503 := kd_503
  have lo : ∀ i, i ≤ er → JJ Z (0, 0) (wL M 497 (lws (ebM M C er L i))) 9 [some (.ref ((zE Z).2.2 478)), some (.int (nI er)), some (.int (M.1 482 er)), some (.int (nI i)), none, none, none] [] := by
    refine jj_loop er ?_ ?_
    · refine jj_iload_n F dX9_eraseBy_9 rfl ?_
      refine jj_iload_n F dX9_eraseBy_10 rfl ?_
      refine jj_icmp_ge F (tgt := 167) dX9_eraseBy_11 (by decide) (fun _ => ?_) (fun h9 => absurd (nI_le (by omega) (by omega)) h9)
      exact ret _ _ _ dX9_eraseBy_167 rfl
    · intro i hi ih
      have hL9 : (wL M 497 (lws (ebM M C er L i))).2 497 = lws (ebM M C er L i) := wL_s _ _ _
      have hC9 : (wL M 497 (lws (ebM M C er L i))).2 487 = lws C := by rw [wL_n (by decide)]; exact hC
      have j161 : ∀ x6 : Option Value, JJ Z (0, 0) (wL M 497 (lws (ebM M C er L (i + 1)))) 161 [some (.ref ((zE Z).2.2 478)), some (.int (nI er)), some (.int (M.1 482 er)), some (.int (nI i)), some (.int (b2i (isE M er i))), some (.int (b2i ((isE M er i && decide (M.1 482 er = nI 1) && exB 256 (fun c => L i c && C er c))))), x6] [] := by
        intro x6
        refine jj_iinc F dX9_eraseBy_161 rfl (iinc1 _) (by rw [hnl]; decide) ?_
        dsimp only [lq_st, lq_clr, lq_no]
        refine jj_goto F (tgt := 9) dX9_eraseBy_164 (by decide) ?_
        refine jj_less (L2 := [some (.ref ((zE Z).2.2 478)), some (.int (nI er)), some (.int (M.1 482 er)), some (.int (nI (i + 1))), none, none, none]) (less7c _ _ _ _ _ _ _) ?_
        exact ih
      have lw9 : isE M er i = true → ∀ w, w ≤ 4 → JJ Z (0, 0) (wL M 497 (mixW i w (ebM M C er L i) (ebM M C er L (i + 1)))) 95 [some (.ref ((zE Z).2.2 478)), some (.int (nI er)), some (.int (M.1 482 er)), some (.int (nI i)), some (.int (b2i (isE M er i))), some (.int (b2i ((isE M er i && decide (M.1 482 er = nI 1) && exB 256 (fun c => L i c && C er c))))), some (.int (nI w))] [] := by
        intro hT
        refine jj_loop 4 ?_ ?_
        · refine jj_iload F dX9_eraseBy_95 rfl ?_
          refine jj_iconst F (v := nI 4) dX9_eraseBy_97 (by decide) ?_
          refine jj_icmp_ge F (tgt := 161) dX9_eraseBy_98 (by decide) (fun _ => ?_) (fun h9 => absurd (nI_le (by omega) (by omega)) h9)
          rw [mixW_4 ebM_keep]
          exact j161 _
        · intro w hw ihw
          have hlw : (wL M 497 (mixW i w (ebM M C er L i) (ebM M C er L (i + 1)))).2 497 (4 * i + w) = lwOf (L i) w := by rw [wL_s, mixW_at hw, ebM_i]
          have hcw : (wL M 497 (mixW i w (ebM M C er L i) (ebM M C er L (i + 1)))).2 487 (4 * er + w) = lwOf (C er) w := by rw [wL_n (by decide), hC, lws_w C hw]
          have hnw : lws (ebM M C er L (i + 1)) (4 * i + w) = lwOf (erM (M.1 482 er) true (L i) (C er)) w := by rw [lws_w _ hw, ebM_n, hT]
          refine jj_iload F dX9_eraseBy_95 rfl ?_
          refine jj_iconst F (v := nI 4) dX9_eraseBy_97 (by decide) ?_
          refine jj_icmp_ge F (tgt := 161) dX9_eraseBy_98 (by decide) (fun h9 => absurd h9 (nI_ge (by omega) (by omega))) (fun _ => ?_)
          refine jj_iload F dX9_eraseBy_101 rfl ?_
          refine jj_if_eq F (tgt := 161) dX9_eraseBy_103 (by decide) (fun h9 => absurd h9 (fun h9 => absurd h9 (by rw [hT]; decide))) (fun _ => ?_)
          refine jj_aload_n F dX9_eraseBy_106 rfl ?_
          refine jj_getr F g66 (by assumption) (by rfl) dX9_eraseBy_107 ?_
          refine jj_iconst F (v := nI 4) dX9_eraseBy_110 (by decide) ?_
          refine jj_iload_n F dX9_eraseBy_111 rfl ?_
          refine jj_imul F dX9_eraseBy_112 ?_
          rw [pk_mul]
          refine jj_iload F dX9_eraseBy_113 rfl ?_
          refine jj_iadd F dX9_eraseBy_115 ?_
          rw [nI_add]
          refine jj_dup2 F dX9_eraseBy_116 rfl rfl ?_
          refine jj_lald F (by assumption) rfl (by omega) dX9_eraseBy_117 ?_
          rw [hlw]
          refine jj_iload F dX9_eraseBy_118 rfl ?_
          refine jj_if_eq F (tgt := 127) dX9_eraseBy_120 (by decide) (fun h120 => ?_) (fun h120 => ?_)
          · refine jj_iload_n F dX9_eraseBy_127 rfl ?_
            refine jj_iconst F (v := nI 1) dX9_eraseBy_128 (by decide) ?_
            refine jj_icmp_ne F (tgt := 138) dX9_eraseBy_129 (by decide) (fun h129 => ?_) (fun h129 => ?_)
            · refine jj_aload_n F dX9_eraseBy_138 rfl ?_
              refine jj_getr F g35 (by assumption) (by rfl) dX9_eraseBy_139 ?_
              refine jj_iconst F (v := nI 4) dX9_eraseBy_142 (by decide) ?_
              refine jj_iload_n F dX9_eraseBy_143 rfl ?_
              refine jj_imul F dX9_eraseBy_144 ?_
              rw [pk_mul]
              refine jj_iload F dX9_eraseBy_145 rfl ?_
              refine jj_iadd F dX9_eraseBy_147 ?_
              rw [nI_add]
              refine jj_lald F (by assumption) rfl (by omega) dX9_eraseBy_148 ?_
              rw [hcw]
              refine jj_ldc2 F (v := -1) dX9_eraseBy_149 (F.hts _ (List.mem_cons_of_mem _ (gl_tb (by decide +kernel) rfl))) ?_
              refine jj_lxor F dX9_eraseBy_152 ?_
              refine jj_land F dX9_eraseBy_153 ?_
              refine jj_last F (by assumption) rfl (by omega) dX9_eraseBy_154 ?_
              refine jj_iinc F dX9_eraseBy_155 rfl (by first | exact iinc1 _ | rfl) (by rw [hnl]; decide) ?_
              dsimp only [lq_st, lq_clr, lq_no]
              refine jj_goto F (tgt := 95) dX9_eraseBy_158 (by decide) ?_
              rw [wL_wL, wL_s, mixW_s hw ?_]
              · exact ihw
              · rw [hnw]
                first
                | (rw [b2i_n0] at h120; simp only [hT, Bool.true_and, Bool.and_eq_true, decide_eq_true_eq] at h120; simp only [erM, h120.1, h120.2, if_true]; rw [lw_and0]; exact lw_0 w)
                | (rw [b2i_0] at h120; simp only [hT, h129, decide_true, Bool.true_and] at h120; simp only [erM, h129, h120, if_true, Bool.false_eq_true, if_false]; exact lw_m1 _ w)
                | (simp only [erM, h129, if_true, if_false]; exact lw_sub _ _ w)
            · refine jj_ldc2 F (v := -1) dX9_eraseBy_132 (F.hts _ (List.mem_cons_of_mem _ (gl_tb (by decide +kernel) rfl))) ?_
              refine jj_goto F (tgt := 153) dX9_eraseBy_135 (by decide) ?_
              refine jj_land F dX9_eraseBy_153 ?_
              refine jj_last F (by assumption) rfl (by omega) dX9_eraseBy_154 ?_
              refine jj_iinc F dX9_eraseBy_155 rfl (by first | exact iinc1 _ | rfl) (by rw [hnl]; decide) ?_
              dsimp only [lq_st, lq_clr, lq_no]
              refine jj_goto F (tgt := 95) dX9_eraseBy_158 (by decide) ?_
              rw [wL_wL, wL_s, mixW_s hw ?_]
              · exact ihw
              · rw [hnw]
                first
                | (rw [b2i_n0] at h120; simp only [hT, Bool.true_and, Bool.and_eq_true, decide_eq_true_eq] at h120; simp only [erM, h120.1, h120.2, if_true]; rw [lw_and0]; exact lw_0 w)
                | (rw [b2i_0] at h120; simp only [hT, h129, decide_true, Bool.true_and] at h120; simp only [erM, h129, h120, if_true, Bool.false_eq_true, if_false]; exact lw_m1 _ w)
                | (simp only [erM, h129, if_true, if_false]; exact lw_sub _ _ w)
          · refine jj_lconst F (v := lN 0) dX9_eraseBy_123 (by decide) ?_
            refine jj_goto F (tgt := 153) dX9_eraseBy_124 (by decide) ?_
            refine jj_land F dX9_eraseBy_153 ?_
            refine jj_last F (by assumption) rfl (by omega) dX9_eraseBy_154 ?_
            refine jj_iinc F dX9_eraseBy_155 rfl (by first | exact iinc1 _ | rfl) (by rw [hnl]; decide) ?_
            dsimp only [lq_st, lq_clr, lq_no]
            refine jj_goto F (tgt := 95) dX9_eraseBy_158 (by decide) ?_
            rw [wL_wL, wL_s, mixW_s hw ?_]
            · exact ihw
            · rw [hnw]
              first
              | (rw [b2i_n0] at h120; simp only [hT, Bool.true_and, Bool.and_eq_true, decide_eq_true_eq] at h120; simp only [erM, h120.1, h120.2, if_true]; rw [lw_and0]; exact lw_0 w)
              | (rw [b2i_0] at h120; simp only [hT, h129, decide_true, Bool.true_and] at h120; simp only [erM, h129, h120, if_true, Bool.false_eq_true, if_false]; exact lw_m1 _ w)
              | (simp only [erM, h129, if_true, if_false]; exact lw_sub _ _ w)
      have j90 : JJ Z (0, 0) (wL M 497 (lws (ebM M C er L i))) 90 [some (.ref ((zE Z).2.2 478)), some (.int (nI er)), some (.int (M.1 482 er)), some (.int (nI i)), some (.int (b2i (isE M er i))), none, none] [.int (b2i ((isE M er i && decide (M.1 482 er = nI 1) && exB 256 (fun c => L i c && C er c))))] := by
        refine jj_istore F dX9_eraseBy_90 (by rw [hnl]; decide) ?_
        dsimp only [lq_st, lq_clr, lq_no]
        refine jj_iconst F (v := nI 0) dX9_eraseBy_92 (by decide) ?_
        refine jj_istore F dX9_eraseBy_93 (by rw [hnl]; decide) ?_
        dsimp only [lq_st, lq_clr, lq_no]
        cases hT : isE M er i with
        | true =>
          refine jj_eqM ?_ (by rw [← hT]; exact lw9 hT 0 (by omega))
          rw [mixW_0]
        | false =>
          refine jj_iload F dX9_eraseBy_95 rfl ?_
          refine jj_iconst F (v := nI 4) dX9_eraseBy_97 (by decide) ?_
          refine jj_icmp_ge F (tgt := 161) dX9_eraseBy_98 (by decide) (fun h9 => absurd h9 (nI_ge (by omega) (by omega))) (fun _ => ?_)
          refine jj_iload F dX9_eraseBy_101 rfl ?_
          refine jj_if_eq F (tgt := 161) dX9_eraseBy_103 (by decide) (fun _ => ?_) (fun h9 => absurd (rfl) h9)
          rw [ebM_no hT]
          rw [← hT]
          exact j161 _
      have j64 : JJ Z (0, 0) (wL M 497 (lws (ebM M C er L i))) 64 [some (.ref ((zE Z).2.2 478)), some (.int (nI er)), some (.int (M.1 482 er)), some (.int (nI i)), none, none, none] [.int (b2i (isE M er i))] := by
        refine jj_istore F dX9_eraseBy_64 (by rw [hnl]; decide) ?_
        dsimp only [lq_st, lq_clr, lq_no]
        refine jj_iload F dX9_eraseBy_66 rfl ?_
        refine jj_if_eq F (tgt := 89) dX9_eraseBy_68 (by decide) (fun h68 => ?_) (fun h68 => ?_)
        · refine jj_iconst F (v := nI 0) dX9_eraseBy_89 (by decide) ?_
          refine jj_topi ?_ j90
          first
          | (rw [b2i_0] at h68; rw [h68]; rfl)
          | (rw [b2i_n0] at h68; simp only [h68, h73, decide_false, Bool.true_and, Bool.false_and]; rfl)
          | (rw [b2i_n0] at h68; rw [ebM_i, b2i_0] at h82; simp only [h68, h73, h82, decide_true, Bool.true_and]; rfl)
          | (rw [b2i_n0] at h68; rw [ebM_i, b2i_n0] at h82; simp only [h68, h73, h82, decide_true, Bool.true_and]; rfl)
        · refine jj_iload_n F dX9_eraseBy_71 rfl ?_
          refine jj_iconst F (v := nI 1) dX9_eraseBy_72 (by decide) ?_
          refine jj_icmp_ne F (tgt := 89) dX9_eraseBy_73 (by decide) (fun h73 => ?_) (fun h73 => ?_)
          · refine jj_iconst F (v := nI 0) dX9_eraseBy_89 (by decide) ?_
            refine jj_topi ?_ j90
            first
            | (rw [b2i_0] at h68; rw [h68]; rfl)
            | (rw [b2i_n0] at h68; simp only [h68, h73, decide_false, Bool.true_and, Bool.false_and]; rfl)
            | (rw [b2i_n0] at h68; rw [ebM_i, b2i_0] at h82; simp only [h68, h73, h82, decide_true, Bool.true_and]; rfl)
            | (rw [b2i_n0] at h68; rw [ebM_i, b2i_n0] at h82; simp only [h68, h73, h82, decide_true, Bool.true_and]; rfl)
          · refine jj_aload_n F dX9_eraseBy_76 rfl ?_
            refine jj_iload_n F dX9_eraseBy_77 rfl ?_
            refine jj_iload_n F dX9_eraseBy_78 rfl ?_
            refine jj_callVi (na := 2) F (c_X9_meets (by assumption) (by assumption) (by omega) (by omega)) (gl_V mk_X9_102 vw_X9_meets) rfl rfl rfl (by decide +kernel) ⟨Nat.le_of_ble_eq_true rfl, Nat.le_of_ble_eq_true rfl⟩ (by assumption) rfl rfl rfl (Nat.le_of_ble_eq_true rfl) ⟨Nat.le_of_ble_eq_true rfl, Nat.le_of_ble_eq_true rfl⟩ dX9_eraseBy_79 (fun r79 M79 hp79 => ?_)
            obtain ⟨rfl, rfl⟩ := symm2 hp79
            refine jj_if_eq F (tgt := 89) dX9_eraseBy_82 (by decide) (fun h82 => ?_) (fun h82 => ?_)
            · refine jj_iconst F (v := nI 0) dX9_eraseBy_89 (by decide) ?_
              refine jj_topi ?_ j90
              first
              | (rw [b2i_0] at h68; rw [h68]; rfl)
              | (rw [b2i_n0] at h68; simp only [h68, h73, decide_false, Bool.true_and, Bool.false_and]; rfl)
              | (rw [b2i_n0] at h68; rw [ebM_i, b2i_0] at h82; simp only [h68, h73, h82, decide_true, Bool.true_and]; rfl)
              | (rw [b2i_n0] at h68; rw [ebM_i, b2i_n0] at h82; simp only [h68, h73, h82, decide_true, Bool.true_and]; rfl)
            · refine jj_iconst F (v := nI 1) dX9_eraseBy_85 (by decide) ?_
              refine jj_goto F (tgt := 90) dX9_eraseBy_86 (by decide) ?_
              refine jj_topi ?_ j90
              first
              | (rw [b2i_0] at h68; rw [h68]; rfl)
              | (rw [b2i_n0] at h68; simp only [h68, h73, decide_false, Bool.true_and, Bool.false_and]; rfl)
              | (rw [b2i_n0] at h68; rw [ebM_i, b2i_0] at h82; simp only [h68, h73, h82, decide_true, Bool.true_and]; rfl)
              | (rw [b2i_n0] at h68; rw [ebM_i, b2i_n0] at h82; simp only [h68, h73, h82, decide_true, Bool.true_and]; rfl)
      refine jj_iload_n F dX9_eraseBy_9 rfl ?_
      refine jj_iload_n F dX9_eraseBy_10 rfl ?_
      refine jj_icmp_ge F (tgt := 167) dX9_eraseBy_11 (by decide) (fun h9 => absurd h9 (nI_ge (by omega) (by omega))) (fun _ => ?_)
      refine jj_aload_n F dX9_eraseBy_14 rfl ?_
      refine jj_getr F g7 (by assumption) (by rfl) dX9_eraseBy_15 ?_
      refine jj_iload_n F dX9_eraseBy_18 rfl ?_
      refine jj_iald F (by assumption) rfl (by omega) dX9_eraseBy_19 ?_
      rw [wL_1]
      refine jj_iconst F (v := nI 2) dX9_eraseBy_20 (by decide) ?_
      refine jj_icmp_eq F (tgt := 63) dX9_eraseBy_21 (by decide) (fun h21 => ?_) (fun h21 => ?_)
      · refine jj_iconst F (v := nI 0) dX9_eraseBy_63 (by decide) ?_
        refine jj_topi ?_ j64
        unfold isE
        first
        | (simp only [h21, decide_true, Bool.not_true, Bool.false_and]; rfl)
        | (simp only [h21, i32_lt_nle h36, decide_false, Bool.and_false, Bool.false_and]; rfl)
        | (simp only [h21, i32_nlt h36, h41, decide_true, decide_false, Bool.not_false, Bool.true_and, Bool.true_or]; rfl)
        | (simp only [h21, i32_nlt h36, h41, h56, decide_true, decide_false, Bool.not_false, Bool.true_and, Bool.false_or]; rfl)
      · refine jj_aload_n F dX9_eraseBy_24 rfl ?_
        refine jj_getr F g16 (by assumption) (by rfl) dX9_eraseBy_25 ?_
        refine jj_iload_n F dX9_eraseBy_28 rfl ?_
        refine jj_iald F (by assumption) rfl (by omega) dX9_eraseBy_29 ?_
        rw [wL_1]
        refine jj_aload_n F dX9_eraseBy_30 rfl ?_
        refine jj_getr F g16 (by assumption) (by rfl) dX9_eraseBy_31 ?_
        refine jj_iload_n F dX9_eraseBy_34 rfl ?_
        refine jj_iald F (by assumption) rfl (by omega) dX9_eraseBy_35 ?_
        rw [wL_1]
        refine jj_icmp_gt F (tgt := 63) dX9_eraseBy_36 (by decide) (fun h36 => ?_) (fun h36 => ?_)
        · refine jj_iconst F (v := nI 0) dX9_eraseBy_63 (by decide) ?_
          refine jj_topi ?_ j64
          unfold isE
          first
          | (simp only [h21, decide_true, Bool.not_true, Bool.false_and]; rfl)
          | (simp only [h21, i32_lt_nle h36, decide_false, Bool.and_false, Bool.false_and]; rfl)
          | (simp only [h21, i32_nlt h36, h41, decide_true, decide_false, Bool.not_false, Bool.true_and, Bool.true_or]; rfl)
          | (simp only [h21, i32_nlt h36, h41, h56, decide_true, decide_false, Bool.not_false, Bool.true_and, Bool.false_or]; rfl)
        · refine jj_iload_n F dX9_eraseBy_39 rfl ?_
          refine jj_iconst F (v := nI 2) dX9_eraseBy_40 (by decide) ?_
          refine jj_icmp_lt F (tgt := 59) dX9_eraseBy_41 (by decide) (fun h41 => ?_) (fun h41 => ?_)
          · refine jj_iconst F (v := nI 1) dX9_eraseBy_59 (by decide) ?_
            refine jj_goto F (tgt := 64) dX9_eraseBy_60 (by decide) ?_
            refine jj_topi ?_ j64
            unfold isE
            first
            | (simp only [h21, decide_true, Bool.not_true, Bool.false_and]; rfl)
            | (simp only [h21, i32_lt_nle h36, decide_false, Bool.and_false, Bool.false_and]; rfl)
            | (simp only [h21, i32_nlt h36, h41, decide_true, decide_false, Bool.not_false, Bool.true_and, Bool.true_or]; rfl)
            | (simp only [h21, i32_nlt h36, h41, h56, decide_true, decide_false, Bool.not_false, Bool.true_and, Bool.false_or]; rfl)
          · refine jj_aload_n F dX9_eraseBy_44 rfl ?_
            refine jj_getr F g13 (by assumption) (by rfl) dX9_eraseBy_45 ?_
            refine jj_iload_n F dX9_eraseBy_48 rfl ?_
            refine jj_iald F (by assumption) rfl (by omega) dX9_eraseBy_49 ?_
            rw [wL_1]
            refine jj_aload_n F dX9_eraseBy_50 rfl ?_
            refine jj_getr F g13 (by assumption) (by rfl) dX9_eraseBy_51 ?_
            refine jj_iload_n F dX9_eraseBy_54 rfl ?_
            refine jj_iald F (by assumption) rfl (by omega) dX9_eraseBy_55 ?_
            rw [wL_1]
            refine jj_icmp_ne F (tgt := 63) dX9_eraseBy_56 (by decide) (fun h56 => ?_) (fun h56 => ?_)
            · refine jj_iconst F (v := nI 0) dX9_eraseBy_63 (by decide) ?_
              refine jj_topi ?_ j64
              unfold isE
              first
              | (simp only [h21, decide_true, Bool.not_true, Bool.false_and]; rfl)
              | (simp only [h21, i32_lt_nle h36, decide_false, Bool.and_false, Bool.false_and]; rfl)
              | (simp only [h21, i32_nlt h36, h41, decide_true, decide_false, Bool.not_false, Bool.true_and, Bool.true_or]; rfl)
              | (simp only [h21, i32_nlt h36, h41, h56, decide_true, decide_false, Bool.not_false, Bool.true_and, Bool.false_or]; rfl)
            · refine jj_iconst F (v := nI 1) dX9_eraseBy_59 (by decide) ?_
              refine jj_goto F (tgt := 64) dX9_eraseBy_60 (by decide) ?_
              refine jj_topi ?_ j64
              unfold isE
              first
              | (simp only [h21, decide_true, Bool.not_true, Bool.false_and]; rfl)
              | (simp only [h21, i32_lt_nle h36, decide_false, Bool.and_false, Bool.false_and]; rfl)
              | (simp only [h21, i32_nlt h36, h41, decide_true, decide_false, Bool.not_false, Bool.true_and, Bool.true_or]; rfl)
              | (simp only [h21, i32_nlt h36, h41, h56, decide_true, decide_false, Bool.not_false, Bool.true_and, Bool.false_or]; rfl)
  refine jj_aload_n F dX9_eraseBy_0 rfl ?_
  refine jj_getr F g19 (by assumption) (by rfl) dX9_eraseBy_1 ?_
  refine jj_iload_n F dX9_eraseBy_4 rfl ?_
  refine jj_iald F (by assumption) rfl (by omega) dX9_eraseBy_5 ?_
  refine jj_istore_n F dX9_eraseBy_6 (by rw [hnl]; decide) ?_
  dsimp only [lq_st, lq_clr, lq_no]
  refine jj_iconst F (v := nI 0) dX9_eraseBy_7 (by decide) ?_
  refine jj_istore_n F dX9_eraseBy_8 (by rw [hnl]; decide) ?_
  dsimp only [lq_st, lq_clr, lq_no]
  refine jj_eqM ?_ (lo 0 (by omega))
  rw [show ebM M C er L 0 = L from funext (fun j => by unfold ebM; rw [if_neg (by omega)]), ← hL, wL_same]
