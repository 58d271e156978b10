theorem less6 (a b c d e f g : Option Value) : ∀ (i : Nat) (v : Value), ([a, b, c, d, e, f, none] : List (Option Value))[i]? = some (some v) → ([a, b, c, d, e, f, g] : List (Option Value))[i]? = some (some v)
  | 0, _, h => h
  | 1, _, h => h
  | 2, _, h => h
  | 3, _, h => h
  | 4, _, h => h
  | 5, _, h => h
  | 6, _, h => by simp at h
  | n + 7, _, h => by simp at h
theorem less6b (a b c d e f g : Option Value) : ∀ (i : Nat) (v : Value), ([a, b, c, d, e, none, none] : List (Option Value))[i]? = some (some v) → ([a, b, c, d, e, f, g] : List (Option Value))[i]? = some (some v)
  | 0, _, h => h
  | 1, _, h => h
  | 2, _, h => h
  | 3, _, h => h
  | 4, _, h => h
  | 5, _, h => by simp at h
  | 6, _, h => by simp at h
  | n + 7, _, h => by simp at h
set_option maxRecDepth 100000 in
set_option maxHeartbeats 1000000 in
theorem c_X7_show {l : Launch} {E : Ee} {M : Mm} {b n : Nat} {t sw : Int32} {C : Nat → Nat → Bool} (hs : isSc b) (hn : M.1 5 1 = nI n) (h60 : n ≤ 60) (hC : ∀ i, i < 60 → M.1 (7 + 3 * i + 1 + 1) = rowsOf (C i)) : CtV l E yX7_show (.code yX7_show cX7_show 7 none :: gl) ({ frames := 3, cells := 0, slots := 0, locals := 69 } : Room) M [.ref (E.2.2 b), .ref (E.2.2 5), .int t, .int sw] 0 0 (fun M2 => M2 = shM M b C n t sw) := by
  refine ctV_of (L0 := [some (.ref (E.2.2 b)), some (.ref (E.2.2 5)), some (.int t), some (.int sw), none, none, none]) (by decide) rfl (Nat.le_of_ble_eq_true rfl) rfl ?_
  intro Z hl hE hnl F ret
  subst hE
  have in_X2 : ∀ w ∈ u_ws RX2 TX2 3, w ∈ (.code yX7_show cX7_show 7 none :: gl) := fun w h => List.mem_cons_of_mem _ (lay_X2 w h)
  have in_X4 : ∀ w ∈ u_ws RX4 TX4 9, w ∈ (.code yX7_show cX7_show 7 none :: gl) := fun w h => List.mem_cons_of_mem _ (lay_X4 w h)
  have in_X7 : ∀ w ∈ u_ws RX7 TX7 4, w ∈ (.code yX7_show cX7_show 7 none :: gl) := fun w h => List.mem_cons_of_mem _ (lay_X7 w h)
  have g11 : FG Z 11 7 0 := fg_mk F (C := RX7) (T := TX7) (N := 4) in_X7 rfl (by decide) rfl (List.mem_cons_of_mem _ fk_X7_11)
  have g28 : FG Z 28 2 1 := fg_mk F (C := RX2) (T := TX2) (N := 3) in_X2 rfl (by decide) rfl (List.mem_cons_of_mem _ fk_X7_28)
  have g37 : FG Z 37 2 0 := fg_mk F (C := RX2) (T := TX2) (N := 3) in_X2 rfl (by decide) rfl (List.mem_cons_of_mem _ fk_X7_37)
  have g41 : FG Z 41 4 6 := fg_mk F (C := RX4) (T := TX4) (N := 9) in_X4 rfl (by decide) rfl (List.mem_cons_of_mem _ fk_X7_41)
  have g54 : FG Z 54 4 2 := fg_mk F (C := RX4) (T := TX4) (N := 9) in_X4 rfl (by decide) rfl (List.mem_cons_of_mem _ fk_X7_54)
  have g61 : FG Z 61 4 3 := fg_mk F (C := RX4) (T := TX4) (N := 9) in_X4 rfl (by decide) rfl (List.mem_cons_of_mem _ fk_X7_61)
  have k0 := kd_sc0 hs
  have k1 := kd_sc1 hs
  have k2 := kd_sc2 hs
  have k3 := kd_sc3 hs
  have k4 := kd_sc4 hs
  have hbb : b = 204 ∨ b = 329 := hs
  have kl := kd_Log
  have ke := kd_ents
  have ly : ∀ l, l ≤ 3 → JJ Z (0, 0) (wA (wA (famL b n (LSf M C sw n) M) (b + 2) (ptLy (fun k => M.1 (7 + 3 * k) 2) (fun k => vanI (M.1 (7 + 3 * k) 4) (M.1 (7 + 3 * k) 5) t) (LSf M C sw n) nI n (fun _ => -1) l)) (b + 3) (ptLy (fun k => M.1 (7 + 3 * k) 2) (fun k => vanI (M.1 (7 + 3 * k) 4) (M.1 (7 + 3 * k) 5) t) (LSf M C sw n) (fun k => M.1 (7 + 3 * k) 3) n (fun _ => nI 0) l)) 66 [some (.ref ((zE Z).2.2 b)), some (.ref ((zE Z).2.2 5)), some (.int t), some (.int sw), some (.int (nI l)), none, none] [] := by
    refine jj_loop 3 ?_ ?_
    · refine jj_iload F dX7_show_66 rfl ?_
      refine jj_iconst F (v := nI 3) dX7_show_68 (by decide) ?_
      refine jj_icmp_ge F (tgt := 135) dX7_show_69 (by decide) (fun _ => ?_) (fun h9 => absurd (nI_le (by omega) (by omega)) h9)
      refine jj_aload_n F dX7_show_135 rfl ?_
      refine jj_callVv (na := 0) F (c_X7_countTops hs) (gl_V mk_X7_67 vw_X7_countTops) rfl rfl rfl (by decide +kernel) ⟨Nat.le_of_ble_eq_true rfl, Nat.le_of_ble_eq_true rfl⟩ (by assumption) rfl rfl rfl (Nat.le_of_ble_eq_true rfl) ⟨Nat.le_of_ble_eq_true rfl, Nat.le_of_ble_eq_true rfl⟩ dX7_show_136 (fun M136 hp136 => ?_)
      obtain rfl := hp136.symm
      refine ret _ _ _ dX7_show_139 ?_
      unfold shM shTop shCol
      rw [wA_n (show b + 2 ≠ b + 3 by omega), wA_s]
    · intro l hl3 ihl
      have li : ∀ i, i ≤ n → JJ Z (0, 0) ((wA (wA (famL b n (LSf M C sw n) M) (b + 2) (ptK (fun k => M.1 (7 + 3 * k) 2) (fun k => vanI (M.1 (7 + 3 * k) 4) (M.1 (7 + 3 * k) 5) t) (LSf M C sw n) nI l (ptLy (fun k => M.1 (7 + 3 * k) 2) (fun k => vanI (M.1 (7 + 3 * k) 4) (M.1 (7 + 3 * k) 5) t) (LSf M C sw n) nI n (fun _ => -1) l) i)) (b + 3) (ptK (fun k => M.1 (7 + 3 * k) 2) (fun k => vanI (M.1 (7 + 3 * k) 4) (M.1 (7 + 3 * k) 5) t) (LSf M C sw n) (fun k => M.1 (7 + 3 * k) 3) l (ptLy (fun k => M.1 (7 + 3 * k) 2) (fun k => vanI (M.1 (7 + 3 * k) 4) (M.1 (7 + 3 * k) 5) t) (LSf M C sw n) (fun k => M.1 (7 + 3 * k) 3) n (fun _ => nI 0) l) i))) 75 [some (.ref ((zE Z).2.2 b)), some (.ref ((zE Z).2.2 5)), some (.int t), some (.int sw), some (.int (nI l)), some (.int (nI i)), none] [] := by
        refine jj_loop (n) ?_ ?_
        · have e5 : (wA (wA (famL b n (LSf M C sw n) M) (b + 2) (ptK (fun k => M.1 (7 + 3 * k) 2) (fun k => vanI (M.1 (7 + 3 * k) 4) (M.1 (7 + 3 * k) 5) t) (LSf M C sw n) nI l (ptLy (fun k => M.1 (7 + 3 * k) 2) (fun k => vanI (M.1 (7 + 3 * k) 4) (M.1 (7 + 3 * k) 5) t) (LSf M C sw n) nI n (fun _ => -1) l) n)) (b + 3) (ptK (fun k => M.1 (7 + 3 * k) 2) (fun k => vanI (M.1 (7 + 3 * k) 4) (M.1 (7 + 3 * k) 5) t) (LSf M C sw n) (fun k => M.1 (7 + 3 * k) 3) l (ptLy (fun k => M.1 (7 + 3 * k) 2) (fun k => vanI (M.1 (7 + 3 * k) 4) (M.1 (7 + 3 * k) 5) t) (LSf M C sw n) (fun k => M.1 (7 + 3 * k) 3) n (fun _ => nI 0) l) n)).1 5 1 = nI n := by rw [wA_n (by omega), wA_n (by omega), famL_out (by omega)]; exact hn
          refine jj_iload F dX7_show_75 rfl ?_
          refine jj_aload_n F dX7_show_77 rfl ?_
          refine jj_geti F g28 (by assumption) (by rfl) dX7_show_78 ?_
          rw [e5]
          refine jj_icmp_ge F (tgt := 129) dX7_show_81 (by decide) (fun _ => ?_) (fun h9 => absurd (nI_le (by omega) (by omega)) h9)
          refine jj_iinc F dX7_show_129 rfl (iinc1 _) (by rw [hnl]; decide) ?_
          dsimp only [lq_st, lq_clr, lq_no]
          refine jj_goto F (tgt := 66) dX7_show_132 (by decide) ?_
          refine jj_less (L2 := [some (.ref ((zE Z).2.2 b)), some (.ref ((zE Z).2.2 5)), some (.int t), some (.int sw), some (.int (nI (l + 1))), none, none]) (less6b _ _ _ _ _ _ _) ?_
          exact ihl
        · intro i hi ih
          have ko := kd_op i (by omega)
          have eo : (wA (wA (famL b n (LSf M C sw n) M) (b + 2) (ptK (fun k => M.1 (7 + 3 * k) 2) (fun k => vanI (M.1 (7 + 3 * k) 4) (M.1 (7 + 3 * k) 5) t) (LSf M C sw n) nI l (ptLy (fun k => M.1 (7 + 3 * k) 2) (fun k => vanI (M.1 (7 + 3 * k) 4) (M.1 (7 + 3 * k) 5) t) (LSf M C sw n) nI n (fun _ => -1) l) i)) (b + 3) (ptK (fun k => M.1 (7 + 3 * k) 2) (fun k => vanI (M.1 (7 + 3 * k) 4) (M.1 (7 + 3 * k) 5) t) (LSf M C sw n) (fun k => M.1 (7 + 3 * k) 3) l (ptLy (fun k => M.1 (7 + 3 * k) 2) (fun k => vanI (M.1 (7 + 3 * k) 4) (M.1 (7 + 3 * k) 5) t) (LSf M C sw n) (fun k => M.1 (7 + 3 * k) 3) n (fun _ => nI 0) l) i)).1 (7 + 3 * i) = M.1 (7 + 3 * i) := by rw [wA_n (by omega), wA_n (by omega), famL_out (by omega)]
          have e5 : (wA (wA (famL b n (LSf M C sw n) M) (b + 2) (ptK (fun k => M.1 (7 + 3 * k) 2) (fun k => vanI (M.1 (7 + 3 * k) 4) (M.1 (7 + 3 * k) 5) t) (LSf M C sw n) nI l (ptLy (fun k => M.1 (7 + 3 * k) 2) (fun k => vanI (M.1 (7 + 3 * k) 4) (M.1 (7 + 3 * k) 5) t) (LSf M C sw n) nI n (fun _ => -1) l) i)) (b + 3) (ptK (fun k => M.1 (7 + 3 * k) 2) (fun k => vanI (M.1 (7 + 3 * k) 4) (M.1 (7 + 3 * k) 5) t) (LSf M C sw n) (fun k => M.1 (7 + 3 * k) 3) l (ptLy (fun k => M.1 (7 + 3 * k) 2) (fun k => vanI (M.1 (7 + 3 * k) 4) (M.1 (7 + 3 * k) 5) t) (LSf M C sw n) (fun k => M.1 (7 + 3 * k) 3) n (fun _ => nI 0) l) i)).1 5 1 = nI n := by rw [wA_n (by omega), wA_n (by omega), famL_out (by omega)]; exact hn
          have hSi : (wA (wA (famL b n (LSf M C sw n) M) (b + 2) (ptK (fun k => M.1 (7 + 3 * k) 2) (fun k => vanI (M.1 (7 + 3 * k) 4) (M.1 (7 + 3 * k) 5) t) (LSf M C sw n) nI l (ptLy (fun k => M.1 (7 + 3 * k) 2) (fun k => vanI (M.1 (7 + 3 * k) 4) (M.1 (7 + 3 * k) 5) t) (LSf M C sw n) nI n (fun _ => -1) l) i)) (b + 3) (ptK (fun k => M.1 (7 + 3 * k) 2) (fun k => vanI (M.1 (7 + 3 * k) 4) (M.1 (7 + 3 * k) 5) t) (LSf M C sw n) (fun k => M.1 (7 + 3 * k) 3) l (ptLy (fun k => M.1 (7 + 3 * k) 2) (fun k => vanI (M.1 (7 + 3 * k) 4) (M.1 (7 + 3 * k) 5) t) (LSf M C sw n) (fun k => M.1 (7 + 3 * k) 3) n (fun _ => nI 0) l) i)).1 (b + 5 + 2 * i + 1) = rowsOf ((LSf M C sw n) i) := by rw [wA_n (by omega), wA_n (by omega), famL_in hi]
          refine jj_iload F dX7_show_75 rfl ?_
          refine jj_aload_n F dX7_show_77 rfl ?_
          refine jj_geti F g28 (by assumption) (by rfl) dX7_show_78 ?_
          rw [e5]
          refine jj_icmp_ge F (tgt := 129) dX7_show_81 (by decide) (fun h9 => absurd h9 (nI_ge (by omega) (by omega))) (fun _ => ?_)
          refine jj_aload_n F dX7_show_84 rfl ?_
          refine jj_getr F g37 (by assumption) (by rfl) dX7_show_85 ?_
          refine jj_iload F dX7_show_88 rfl ?_
          refine jj_aald F (by assumption) rfl (by omega) dX7_show_90 ?_
          refine jj_astore F dX7_show_91 (by rw [hnl]; decide) ?_
          dsimp only [lq_st, lq_clr, lq_no]
          refine jj_aload F dX7_show_93 rfl ?_
          refine jj_geti F g54 (by assumption) (by rfl) dX7_show_95 ?_
          rw [eo]
          refine jj_iload F dX7_show_98 rfl ?_
          refine jj_icmp_ne F (tgt := 123) dX7_show_100 (by decide) (fun h100 => ?_) (fun h100 => ?_)
          · refine jj_iinc F dX7_show_123 rfl (by first | exact iinc1 _ | rfl) (by rw [hnl]; decide) ?_
            dsimp only [lq_st, lq_clr, lq_no]
            refine jj_goto F (tgt := 75) dX7_show_126 (by decide) ?_
            refine jj_less (L2 := [some (.ref ((zE Z).2.2 b)), some (.ref ((zE Z).2.2 5)), some (.int t), some (.int sw), some (.int (nI l)), some (.int (nI (i + 1))), none]) (less6 _ _ _ _ _ _ _) ?_
            first
            | (refine jj_eqM ?_ ih; simp only [ptK, h100, false_and, if_false]; done)
            | (rw [b2i_n0] at h109; refine jj_eqM ?_ ih; simp only [ptK, h100, h109, Bool.true_eq_false, and_false, if_false]; done)
            | (rw [b2i_0] at h109; refine jj_eqM ?_ ih; rw [wA_s, wA_n (show b + 2 ≠ b + 3 by omega), wA_s, wA_comm (show b + 3 ≠ b + 2 by omega), wA_wA, wA_wA]; simp only [ptK, h100, h109, and_self, if_true]; done)
          · refine jj_aload F dX7_show_103 rfl ?_
            refine jj_iload_n F dX7_show_105 rfl ?_
            refine jj_callVi (na := 1) F (c_X4_hasVanished (by omega)) (gl_V mk_X7_57 vw_X4_hasVanished) rfl rfl rfl (by decide +kernel) ⟨Nat.le_of_ble_eq_true rfl, Nat.le_of_ble_eq_true rfl⟩ (by assumption) rfl rfl rfl (Nat.le_of_ble_eq_true rfl) ⟨Nat.le_of_ble_eq_true rfl, Nat.le_of_ble_eq_true rfl⟩ dX7_show_106 (fun r106 M106 hp106 => ?_)
            obtain ⟨rfl, rfl⟩ := symm2 hp106
            rw [eo]
            refine jj_if_ne F (tgt := 123) dX7_show_109 (by decide) (fun h109 => ?_) (fun h109 => ?_)
            · refine jj_iinc F dX7_show_123 rfl (by first | exact iinc1 _ | rfl) (by rw [hnl]; decide) ?_
              dsimp only [lq_st, lq_clr, lq_no]
              refine jj_goto F (tgt := 75) dX7_show_126 (by decide) ?_
              refine jj_less (L2 := [some (.ref ((zE Z).2.2 b)), some (.ref ((zE Z).2.2 5)), some (.int t), some (.int sw), some (.int (nI l)), some (.int (nI (i + 1))), none]) (less6 _ _ _ _ _ _ _) ?_
              first
              | (refine jj_eqM ?_ ih; simp only [ptK, h100, false_and, if_false]; done)
              | (rw [b2i_n0] at h109; refine jj_eqM ?_ ih; simp only [ptK, h100, h109, Bool.true_eq_false, and_false, if_false]; done)
              | (rw [b2i_0] at h109; refine jj_eqM ?_ ih; rw [wA_s, wA_n (show b + 2 ≠ b + 3 by omega), wA_s, wA_comm (show b + 3 ≠ b + 2 by omega), wA_wA, wA_wA]; simp only [ptK, h100, h109, and_self, if_true]; done)
            · refine jj_aload_n F dX7_show_112 rfl ?_
              refine jj_iload F dX7_show_113 rfl ?_
              refine jj_aload F dX7_show_115 rfl ?_
              refine jj_geti F g61 (by assumption) (by rfl) dX7_show_117 ?_
              rw [eo]
              refine jj_callVv (na := 2) F (c_X7_paint (S := (LSf M C sw n) i) hs (by omega) hSi) (gl_V mk_X7_64 vw_X7_paint) rfl rfl rfl (by decide +kernel) ⟨Nat.le_of_ble_eq_true rfl, Nat.le_of_ble_eq_true rfl⟩ (by assumption) rfl rfl rfl (Nat.le_of_ble_eq_true rfl) ⟨Nat.le_of_ble_eq_true rfl, Nat.le_of_ble_eq_true rfl⟩ dX7_show_120 (fun M120 hp120 => ?_)
              obtain rfl := hp120.symm
              refine jj_iinc F dX7_show_123 rfl (by first | exact iinc1 _ | rfl) (by rw [hnl]; decide) ?_
              dsimp only [lq_st, lq_clr, lq_no]
              refine jj_goto F (tgt := 75) dX7_show_126 (by decide) ?_
              refine jj_less (L2 := [some (.ref ((zE Z).2.2 b)), some (.ref ((zE Z).2.2 5)), some (.int t), some (.int sw), some (.int (nI l)), some (.int (nI (i + 1))), none]) (less6 _ _ _ _ _ _ _) ?_
              first
              | (refine jj_eqM ?_ ih; simp only [ptK, h100, false_and, if_false]; done)
              | (rw [b2i_n0] at h109; refine jj_eqM ?_ ih; simp only [ptK, h100, h109, Bool.true_eq_false, and_false, if_false]; done)
              | (rw [b2i_0] at h109; refine jj_eqM ?_ ih; rw [wA_s, wA_n (show b + 2 ≠ b + 3 by omega), wA_s, wA_comm (show b + 3 ≠ b + 2 by omega), wA_wA, wA_wA]; simp only [ptK, h100, h109, and_self, if_true]; done)
      refine jj_iload F dX7_show_66 rfl ?_
      refine jj_iconst F (v := nI 3) dX7_show_68 (by decide) ?_
      refine jj_icmp_ge F (tgt := 135) dX7_show_69 (by decide) (fun h9 => absurd h9 (nI_ge (by omega) (by omega))) (fun _ => ?_)
      refine jj_iconst F (v := nI 0) dX7_show_72 (by decide) ?_
      refine jj_istore F dX7_show_73 (by rw [hnl]; decide) ?_
      dsimp only [lq_st, lq_clr, lq_no]
      exact li 0 (by omega)
  have lo : ∀ i, i ≤ n → JJ Z (0, 0) (famL b i (LSf M C sw i) M) 3 [some (.ref ((zE Z).2.2 b)), some (.ref ((zE Z).2.2 5)), some (.int t), some (.int sw), some (.int (nI i)), none, none] [] := by
    refine jj_loop (n) ?_ ?_
    · have e5 : (famL b n (LSf M C sw n) M).1 5 1 = nI n := by rw [famL_out (by omega)]; exact hn
      refine jj_iload F dX7_show_3 rfl ?_
      refine jj_aload_n F dX7_show_5 rfl ?_
      refine jj_geti F g28 (by assumption) (by rfl) dX7_show_6 ?_
      rw [e5]
      refine jj_icmp_ge F (tgt := 59) dX7_show_9 (by decide) (fun _ => ?_) (fun h9 => absurd (nI_le (by omega) (by omega)) h9)
      refine jj_aload_n F dX7_show_59 rfl ?_
      refine jj_callVv (na := 0) F (c_X7_becomeBlank hs) (gl_V mk_X7_51 vw_X7_becomeBlank) rfl rfl rfl (by decide +kernel) ⟨Nat.le_of_ble_eq_true rfl, Nat.le_of_ble_eq_true rfl⟩ (by assumption) rfl rfl rfl (Nat.le_of_ble_eq_true rfl) ⟨Nat.le_of_ble_eq_true rfl, Nat.le_of_ble_eq_true rfl⟩ dX7_show_60 (fun M60 hp60 => ?_)
      obtain rfl := hp60.symm
      refine jj_iconst F (v := nI 0) dX7_show_63 (by decide) ?_
      refine jj_istore F dX7_show_64 (by rw [hnl]; decide) ?_
      dsimp only [lq_st, lq_clr, lq_no]
      exact ly 0 (by omega)
    · intro i hi ih
      have ko := kd_op i (by omega)
      have csl := cs_sc hs i (by omega)
      obtain ⟨l0, l1⟩ := id csl
      have e5 : (famL b i (LSf M C sw i) M).1 5 1 = nI n := by rw [famL_out (by omega)]; exact hn
      have eo : ∀ (LT : Nat → Nat → Bool), (famL b (i + 1) LT M).1 (7 + 3 * i) = M.1 (7 + 3 * i) := fun LT => famL_out (by omega)
      refine jj_iload F dX7_show_3 rfl ?_
      refine jj_aload_n F dX7_show_5 rfl ?_
      refine jj_geti F g28 (by assumption) (by rfl) dX7_show_6 ?_
      rw [e5]
      refine jj_icmp_ge F (tgt := 59) dX7_show_9 (by decide) (fun h9 => absurd h9 (nI_ge (by omega) (by omega))) (fun _ => ?_)
      refine jj_aload_n F dX7_show_12 rfl ?_
      refine jj_getr F g11 (by assumption) (by rfl) dX7_show_13 ?_
      refine jj_iload F dX7_show_16 rfl ?_
      refine jj_aald F (by assumption) rfl (by omega) dX7_show_18 ?_
      refine jj_callVv (na := 0) F (c_X0_becomeEmpty (by assumption)) (gl_V mk_X7_34 vw_X0_becomeEmpty) rfl rfl rfl (by decide +kernel) ⟨Nat.le_of_ble_eq_true rfl, Nat.le_of_ble_eq_true rfl⟩ (by assumption) rfl rfl rfl (Nat.le_of_ble_eq_true rfl) ⟨Nat.le_of_ble_eq_true rfl, Nat.le_of_ble_eq_true rfl⟩ dX7_show_19 (fun M19 hp19 => ?_)
      obtain rfl := hp19.symm
      rw [famL_next]
      refine jj_aload_n F dX7_show_22 rfl ?_
      refine jj_getr F g37 (by assumption) (by rfl) dX7_show_23 ?_
      refine jj_iload F dX7_show_26 rfl ?_
      refine jj_aald F (by assumption) rfl (by omega) dX7_show_28 ?_
      refine jj_geti F g41 (by assumption) (by rfl) dX7_show_29 ?_
      rw [eo]
      refine jj_iload F dX7_show_32 rfl ?_
      refine jj_iload_n F dX7_show_34 rfl ?_
      refine jj_icmp_ne F (tgt := 42) dX7_show_35 (by decide) (fun h35 => ?_) (fun h35 => ?_)
      · refine jj_iconst F (v := nI 0) dX7_show_42 (by decide) ?_
        refine jj_icmp_eq F (tgt := 53) dX7_show_43 (by decide) (fun h43 => ?_) (fun h43 => ?_)
        · refine jj_iinc F dX7_show_53 rfl (by first | exact iinc1 _ | rfl) (by rw [hnl]; decide) ?_
          dsimp only [lq_st, lq_clr, lq_no]
          refine jj_goto F (tgt := 3) dX7_show_56 (by decide) ?_
          refine jj_eqM ?_ ih
          first
          | (simp only [LSf, goB, h35, h43, if_true, if_false, decide_true, decide_false, Bool.not_true, Bool.not_false, Bool.false_eq_true]; done)
          | (simp [LSf, goB, h35, h43]; done)
        · refine jj_aload_n F dX7_show_46 rfl ?_
          refine jj_aload_n F dX7_show_47 rfl ?_
          refine jj_iload F dX7_show_48 rfl ?_
          refine jj_callVv (na := 2) F (c_X7_takeEffect hs (by omega) hC) (gl_V mk_X7_47 vw_X7_takeEffect) rfl rfl rfl (by decide +kernel) ⟨Nat.le_of_ble_eq_true rfl, Nat.le_of_ble_eq_true rfl⟩ (by assumption) rfl rfl rfl (Nat.le_of_ble_eq_true rfl) ⟨Nat.le_of_ble_eq_true rfl, Nat.le_of_ble_eq_true rfl⟩ dX7_show_50 (fun M50 hp50 => ?_)
          obtain rfl := hp50.symm
          refine jj_iinc F dX7_show_53 rfl (by first | exact iinc1 _ | rfl) (by rw [hnl]; decide) ?_
          dsimp only [lq_st, lq_clr, lq_no]
          refine jj_goto F (tgt := 3) dX7_show_56 (by decide) ?_
          refine jj_eqM ?_ ih
          first
          | (simp only [LSf, goB, h35, h43, if_true, if_false, decide_true, decide_false, Bool.not_true, Bool.not_false, Bool.false_eq_true]; done)
          | (simp [LSf, goB, h35, h43]; done)
      · refine jj_iconst F (v := nI 1) dX7_show_38 (by decide) ?_
        refine jj_goto F (tgt := 43) dX7_show_39 (by decide) ?_
        refine jj_icmp_eq F (tgt := 53) dX7_show_43 (by decide) (fun h43 => ?_) (fun h43 => ?_)
        · refine jj_iinc F dX7_show_53 rfl (by first | exact iinc1 _ | rfl) (by rw [hnl]; decide) ?_
          dsimp only [lq_st, lq_clr, lq_no]
          refine jj_goto F (tgt := 3) dX7_show_56 (by decide) ?_
          refine jj_eqM ?_ ih
          first
          | (simp only [LSf, goB, h35, h43, if_true, if_false, decide_true, decide_false, Bool.not_true, Bool.not_false, Bool.false_eq_true]; done)
          | (simp [LSf, goB, h35, h43]; done)
        · refine jj_aload_n F dX7_show_46 rfl ?_
          refine jj_aload_n F dX7_show_47 rfl ?_
          refine jj_iload F dX7_show_48 rfl ?_
          refine jj_callVv (na := 2) F (c_X7_takeEffect hs (by omega) hC) (gl_V mk_X7_47 vw_X7_takeEffect) rfl rfl rfl (by decide +kernel) ⟨Nat.le_of_ble_eq_true rfl, Nat.le_of_ble_eq_true rfl⟩ (by assumption) rfl rfl rfl (Nat.le_of_ble_eq_true rfl) ⟨Nat.le_of_ble_eq_true rfl, Nat.le_of_ble_eq_true rfl⟩ dX7_show_50 (fun M50 hp50 => ?_)
          obtain rfl := hp50.symm
          refine jj_iinc F dX7_show_53 rfl (by first | exact iinc1 _ | rfl) (by rw [hnl]; decide) ?_
          dsimp only [lq_st, lq_clr, lq_no]
          refine jj_goto F (tgt := 3) dX7_show_56 (by decide) ?_
          refine jj_eqM ?_ ih
          first
          | (simp only [LSf, goB, h35, h43, if_true, if_false, decide_true, decide_false, Bool.not_true, Bool.not_false, Bool.false_eq_true]; done)
          | (simp [LSf, goB, h35, h43]; done)
  refine jj_iconst F (v := nI 0) dX7_show_0 (by decide) ?_
  refine jj_istore F dX7_show_1 (by rw [hnl]; decide) ?_
  dsimp only [lq_st, lq_clr, lq_no]
  refine jj_eqM (famL_0 (b := b) (LS := LSf M C sw 0)).symm ?_
  exact lo 0 (by omega)
