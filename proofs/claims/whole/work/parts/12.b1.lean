/-! SharedBoard: cell 0 (8 tick); its own steps -/
section JT
variable {Z : Zt} {cc : ByteArray} {Ts : List Cond} {own : String} {rm : Room} {κ : Nat × Nat} {M : Mm} {pc : Nat} {L : List (Option Value)} {st : List Value}
theorem jj_tableIn (F : ZF Z cc Ts own rm) {dflt lo hi : Int} {offs : Array Int} {len : Nat} {x : Int32} {off : Int} {tgt : Nat} (hd : decode cc pc = .ok (.tableswitch dflt lo hi offs, len)) (h1 : ¬ x.toInt < lo) (h2 : ¬ hi < x.toInt) (ho : offs[(x.toInt - lo).toNat]? = some off) (ht : (pc : Int) + off = (tgt : Int)) (k : JJ Z κ M tgt L st) : JJ Z κ M pc L (.int x :: st) := fun H locs ls a b c d => lv_tableIn F.x F.b hd h1 h2 ho ht (k H locs ls a b c d)
theorem jj_tableOut (F : ZF Z cc Ts own rm) {dflt lo hi : Int} {offs : Array Int} {len : Nat} {x : Int32} {tgt : Nat} (hd : decode cc pc = .ok (.tableswitch dflt lo hi offs, len)) (h : x.toInt < lo ∨ hi < x.toInt) (ht : (pc : Int) + dflt = (tgt : Int)) (k : JJ Z κ M tgt L st) : JJ Z κ M pc L (.int x :: st) := fun H locs ls a b c d => lv_tableOut F.x F.b hd h ht (k H locs ls a b c d)
end JT
theorem sc204 : isSc 204 := Or.inl rfl
theorem sc329 : isSc 329 := Or.inr rfl
set_option maxRecDepth 100000 in
set_option maxHeartbeats 1000000 in
theorem c_X8_showNow {l : Launch} {E : Ee} {M : Mm} {n : Nat} (hn : M.1 5 1 = nI n) (h60 : n ≤ 60) {C : Nat → Nat → Bool} (hC : ∀ i, i < 60 → M.1 (7 + 3 * i + 1 + 1) = rowsOf (C i)) : CtV l E yX8_showNow (.code yX8_showNow cX8_showNow 1 none :: gl) ({ frames := 4, cells := 0, slots := 0, locals := 95 } : Room) M [.ref (E.2.2 0)] 0 0 (fun M2 => M2 = shM M 204 C n (M.1 0 8) (-1)) := by
  refine ctV_of (L0 := [some (.ref (E.2.2 0))]) (by decide) rfl (Nat.le_of_ble_eq_true rfl) rfl ?_
  intro Z hl hE hnl F ret
  subst hE
  have in_X8 : ∀ w ∈ u_ws RX8 TX8 9, w ∈ (.code yX8_showNow cX8_showNow 1 none :: gl) := fun w h => List.mem_cons_of_mem _ (lay_X8 w h)
  have g19 : FG Z 19 8 1 := fg_mk F (C := RX8) (T := TX8) (N := 9) in_X8 rfl (by decide) rfl (List.mem_cons_of_mem _ fk_X8_19)
  have g39 : FG Z 39 8 4 := fg_mk F (C := RX8) (T := TX8) (N := 9) in_X8 rfl (by decide) rfl (List.mem_cons_of_mem _ fk_X8_39)
  have g60 : FG Z 60 8 8 := fg_mk F (C := RX8) (T := TX8) (N := 9) in_X8 rfl (by decide) rfl (List.mem_cons_of_mem _ fk_X8_60)
  have kb := kd_B
  have kl := kd_Log
  have ke := kd_ents
  have ks := kd_sc0 sc204
  have ks1 := kd_sc1 sc204
  have ks2 := kd_sc2 sc204
  have ks3 := kd_sc3 sc204
  have ks4 := kd_sc4 sc204
  have kt := kd_sc0 sc329
  have kt3 := kd_sc3 sc329
  have kp := kd_PT
  have kL := kd_Ls
  have cs8 := cs_scr
  have k58 := kd_458
  have k59 := kd_459
  have kr := kd_Reg
  have km := kd_marks
  refine jj_aload_n F dX8_showNow_0 rfl ?_
  refine jj_getr F g39 (by assumption) (by rfl) dX8_showNow_1 ?_
  refine jj_aload_n F dX8_showNow_4 rfl ?_
  refine jj_getr F g19 (by assumption) (by rfl) dX8_showNow_5 ?_
  refine jj_aload_n F dX8_showNow_8 rfl ?_
  refine jj_geti F g60 (by assumption) (by rfl) dX8_showNow_9 ?_
  refine jj_iconst F (v := -1) dX8_showNow_12 (by decide) ?_
  refine jj_callVv (na := 3) F (c_X7_show (by first | exact sc204 | exact sc329) hn h60 hC) (gl_V mk_X8_244 vw_X7_show) rfl rfl rfl (by decide +kernel) ⟨Nat.le_of_ble_eq_true rfl, Nat.le_of_ble_eq_true rfl⟩ (by assumption) rfl rfl rfl (Nat.le_of_ble_eq_true rfl) ⟨Nat.le_of_ble_eq_true rfl, Nat.le_of_ble_eq_true rfl⟩ dX8_showNow_13 (fun M13 hp13 => ?_)
  obtain rfl := hp13.symm
  refine ret _ _ _ dX8_showNow_16 ?_
  exact rfl
set_option maxRecDepth 100000 in
set_option maxHeartbeats 1000000 in
theorem c_X8_leaveOutClosedCells {l : Launch} {E : Ee} {M : Mm} {k : Nat} {S : Nat → Bool} (hk : k < 60) (hS : M.1 (7 + 3 * k + 1 + 1) = rowsOf S) {A : Nat → Nat → Bool} (hA : ∀ i, i < 6 → M.1 (191 + 2 * i + 1) = rowsOf (A i)) : CtV l E yX8_leaveOutClosedCells (.code yX8_leaveOutClosedCells cX8_leaveOutClosedCells 2 none :: gl) ({ frames := 2, cells := 0, slots := 0, locals := 46 } : Room) M [.ref (E.2.2 0), .ref (E.2.2 (7 + 3 * k))] 0 0 (fun M2 => M2 = wA (wA M (458 + 1) (rowsOf (cloF M A (M.1 0 8) (M.1 (7 + 3 * k) 1) 6))) (7 + 3 * k + 1 + 1) (rowsOf (fun c => S c && !cloF M A (M.1 0 8) (M.1 (7 + 3 * k) 1) 6 c))) := by
  refine ctV_of (L0 := [some (.ref (E.2.2 0)), some (.ref (E.2.2 (7 + 3 * k)))]) (by decide) rfl (Nat.le_of_ble_eq_true rfl) rfl ?_
  intro Z hl hE hnl F ret
  subst hE
  have in_X4 : ∀ w ∈ u_ws RX4 TX4 9, w ∈ (.code yX8_leaveOutClosedCells cX8_leaveOutClosedCells 2 none :: gl) := fun w h => List.mem_cons_of_mem _ (lay_X4 w h)
  have in_X8 : ∀ w ∈ u_ws RX8 TX8 9, w ∈ (.code yX8_leaveOutClosedCells cX8_leaveOutClosedCells 2 none :: gl) := fun w h => List.mem_cons_of_mem _ (lay_X8 w h)
  have g26 : FG Z 26 8 2 := fg_mk F (C := RX8) (T := TX8) (N := 9) in_X8 rfl (by decide) rfl (List.mem_cons_of_mem _ fk_X8_26)
  have g56 : FG Z 56 8 7 := fg_mk F (C := RX8) (T := TX8) (N := 9) in_X8 rfl (by decide) rfl (List.mem_cons_of_mem _ fk_X8_56)
  have g60 : FG Z 60 8 8 := fg_mk F (C := RX8) (T := TX8) (N := 9) in_X8 rfl (by decide) rfl (List.mem_cons_of_mem _ fk_X8_60)
  have g140 : FG Z 140 4 8 := fg_mk F (C := RX4) (T := TX4) (N := 9) in_X4 rfl (by decide) rfl (List.mem_cons_of_mem _ fk_X8_140)
  have g309 : FG Z 309 4 1 := fg_mk F (C := RX4) (T := TX4) (N := 9) in_X4 rfl (by decide) rfl (List.mem_cons_of_mem _ fk_X8_309)
  have kb := kd_B
  have kl := kd_Log
  have ke := kd_ents
  have ks := kd_sc0 sc204
  have ks1 := kd_sc1 sc204
  have ks2 := kd_sc2 sc204
  have ks3 := kd_sc3 sc204
  have ks4 := kd_sc4 sc204
  have kt := kd_sc0 sc329
  have kt3 := kd_sc3 sc329
  have kp := kd_PT
  have kL := kd_Ls
  have cs8 := cs_scr
  have k58 := kd_458
  have k59 := kd_459
  have kr := kd_Reg
  have km := kd_marks
  have ko := kd_op k hk
  have csk := cs_op k hk
  obtain ⟨c0, c1⟩ := id csk
  refine jj_aload_n F dX8_leaveOutClosedCells_0 rfl ?_
  refine jj_getr F g26 (by assumption) (by rfl) dX8_leaveOutClosedCells_1 ?_
  refine jj_aload_n F dX8_leaveOutClosedCells_4 rfl ?_
  refine jj_geti F g309 (by assumption) (by rfl) dX8_leaveOutClosedCells_5 ?_
  refine jj_aload_n F dX8_leaveOutClosedCells_8 rfl ?_
  refine jj_geti F g60 (by assumption) (by rfl) dX8_leaveOutClosedCells_9 ?_
  refine jj_aload_n F dX8_leaveOutClosedCells_12 rfl ?_
  refine jj_getr F g56 (by assumption) (by rfl) dX8_leaveOutClosedCells_13 ?_
  refine jj_callVv (na := 3) F (c_X1_collectClosed (A := A) hA cs8 (fun i hi => by omega)) (gl_V mk_X8_190 vw_X1_collectClosed) rfl rfl rfl (by decide +kernel) ⟨Nat.le_of_ble_eq_true rfl, Nat.le_of_ble_eq_true rfl⟩ (by assumption) rfl rfl rfl (Nat.le_of_ble_eq_true rfl) ⟨Nat.le_of_ble_eq_true rfl, Nat.le_of_ble_eq_true rfl⟩ dX8_leaveOutClosedCells_16 (fun M16 hp16 => ?_)
  obtain rfl := hp16.symm
  refine jj_aload_n F dX8_leaveOutClosedCells_19 rfl ?_
  refine jj_getr F g140 (by assumption) (by rfl) dX8_leaveOutClosedCells_20 ?_
  refine jj_aload_n F dX8_leaveOutClosedCells_23 rfl ?_
  refine jj_getr F g56 (by assumption) (by rfl) dX8_leaveOutClosedCells_24 ?_
  refine jj_callVv (na := 1) F (c_X0_takeAway csk cs8 (by omega) (by rw [wA_n (by omega)]; exact hS) (wA_s _ _ _)) (gl_V mk_X8_312 vw_X0_takeAway) rfl rfl rfl (by decide +kernel) ⟨Nat.le_of_ble_eq_true rfl, Nat.le_of_ble_eq_true rfl⟩ (by assumption) rfl rfl rfl (Nat.le_of_ble_eq_true rfl) ⟨Nat.le_of_ble_eq_true rfl, Nat.le_of_ble_eq_true rfl⟩ dX8_leaveOutClosedCells_27 (fun M27 hp27 => ?_)
  obtain rfl := hp27.symm
  refine ret _ _ _ dX8_leaveOutClosedCells_30 ?_
  exact rfl
set_option maxRecDepth 100000 in
set_option maxHeartbeats 1000000 in
theorem c_X8_takeCellsFromBuffer {l : Launch} {E : Ee} {M : Mm} {k p : Nat} {cx cy : Nat → Nat} (hk : k < 60) (hx : M.1 3 = fun j => nI (cx j)) (hy : M.1 4 = fun j => nI (cy j)) (hcx : ∀ j, cx j < 16) (hcy : ∀ j, cy j < 16) (hp : M.1 1 4 = nI p) (hp6 : p < 6) {A : Nat → Nat → Bool} (hA : ∀ i, i < 6 → M.1 (191 + 2 * i + 1) = rowsOf (A i)) : CtV l E yX8_takeCellsFromBuffer (.code yX8_takeCellsFromBuffer cX8_takeCellsFromBuffer 2 none :: gl) ({ frames := 4, cells := 0, slots := 0, locals := 94 } : Room) M [.ref (E.2.2 0), .ref (E.2.2 (7 + 3 * k))] 0 0 (fun M2 => M2 = wA (wA (wA (wA M (7 + 3 * k + 1 + 1) (rowsOf (drS cx cy p))) 1 (upd (M.1 1) 1 (nI 0))) (458 + 1) (rowsOf (cloF (wA (wA M (7 + 3 * k + 1 + 1) (rowsOf (drS cx cy p))) 1 (upd (M.1 1) 1 (nI 0))) A ((wA (wA M (7 + 3 * k + 1 + 1) (rowsOf (drS cx cy p))) 1 (upd (M.1 1) 1 (nI 0))).1 0 8) ((wA (wA M (7 + 3 * k + 1 + 1) (rowsOf (drS cx cy p))) 1 (upd (M.1 1) 1 (nI 0))).1 (7 + 3 * k) 1) 6))) (7 + 3 * k + 1 + 1) (rowsOf (fun c => drS cx cy p c && !cloF (wA (wA M (7 + 3 * k + 1 + 1) (rowsOf (drS cx cy p))) 1 (upd (M.1 1) 1 (nI 0))) A ((wA (wA M (7 + 3 * k + 1 + 1) (rowsOf (drS cx cy p))) 1 (upd (M.1 1) 1 (nI 0))).1 0 8) ((wA (wA M (7 + 3 * k + 1 + 1) (rowsOf (drS cx cy p))) 1 (upd (M.1 1) 1 (nI 0))).1 (7 + 3 * k) 1) 6 c))) := by
  refine ctV_of (L0 := [some (.ref (E.2.2 0)), some (.ref (E.2.2 (7 + 3 * k)))]) (by decide) rfl (Nat.le_of_ble_eq_true rfl) rfl ?_
  intro Z hl hE hnl F ret
  subst hE
  have in_X4 : ∀ w ∈ u_ws RX4 TX4 9, w ∈ (.code yX8_takeCellsFromBuffer cX8_takeCellsFromBuffer 2 none :: gl) := fun w h => List.mem_cons_of_mem _ (lay_X4 w h)
  have in_X5 : ∀ w ∈ u_ws RX5 TX5 7, w ∈ (.code yX8_takeCellsFromBuffer cX8_takeCellsFromBuffer 2 none :: gl) := fun w h => List.mem_cons_of_mem _ (lay_X5 w h)
  have in_X8 : ∀ w ∈ u_ws RX8 TX8 9, w ∈ (.code yX8_takeCellsFromBuffer cX8_takeCellsFromBuffer 2 none :: gl) := fun w h => List.mem_cons_of_mem _ (lay_X8 w h)
  have g10 : FG Z 10 8 0 := fg_mk F (C := RX8) (T := TX8) (N := 9) in_X8 rfl (by decide) rfl (List.mem_cons_of_mem _ fk_X8_10)
  have g140 : FG Z 140 4 8 := fg_mk F (C := RX4) (T := TX4) (N := 9) in_X4 rfl (by decide) rfl (List.mem_cons_of_mem _ fk_X8_140)
  have p93 : FP Z 93 5 1 .int := fp_mk F (C := RX5) (T := TX5) (N := 7) in_X5 tyX5_ok nmX5 rfl (by decide) rfl (List.mem_cons_of_mem _ fk_X8_93) rfl (by decide +kernel)
  have kb := kd_B
  have kl := kd_Log
  have ke := kd_ents
  have ks := kd_sc0 sc204
  have ks1 := kd_sc1 sc204
  have ks2 := kd_sc2 sc204
  have ks3 := kd_sc3 sc204
  have ks4 := kd_sc4 sc204
  have kt := kd_sc0 sc329
  have kt3 := kd_sc3 sc329
  have kp := kd_PT
  have kL := kd_Ls
  have cs8 := cs_scr
  have k58 := kd_458
  have k59 := kd_459
  have kr := kd_Reg
  have km := kd_marks
  have ko := kd_op k hk
  have csk := cs_op k hk
  obtain ⟨c0, c1⟩ := id csk
  refine jj_aload_n F dX8_takeCellsFromBuffer_0 rfl ?_
  refine jj_getr F g10 (by assumption) (by rfl) dX8_takeCellsFromBuffer_1 ?_
  refine jj_aload_n F dX8_takeCellsFromBuffer_4 rfl ?_
  refine jj_getr F g140 (by assumption) (by rfl) dX8_takeCellsFromBuffer_5 ?_
  refine jj_callVv (na := 1) F (c_X5_drawInto (p := p) hx hy hcx hcy hp hp6 csk) (gl_V mk_X8_305 vw_X5_drawInto) rfl rfl rfl (by decide +kernel) ⟨Nat.le_of_ble_eq_true rfl, Nat.le_of_ble_eq_true rfl⟩ (by assumption) rfl rfl rfl (Nat.le_of_ble_eq_true rfl) ⟨Nat.le_of_ble_eq_true rfl, Nat.le_of_ble_eq_true rfl⟩ dX8_takeCellsFromBuffer_8 (fun M8 hp8 => ?_)
  obtain rfl := hp8.symm
  refine jj_aload_n F dX8_takeCellsFromBuffer_11 rfl ?_
  refine jj_getr F g10 (by assumption) (by rfl) dX8_takeCellsFromBuffer_12 ?_
  refine jj_iconst F (v := nI 0) dX8_takeCellsFromBuffer_15 (by decide) ?_
  refine jj_puti F p93 (by assumption) (by rfl) dX8_takeCellsFromBuffer_16 ?_
  refine jj_aload_n F dX8_takeCellsFromBuffer_19 rfl ?_
  refine jj_aload_n F dX8_takeCellsFromBuffer_20 rfl ?_
  refine jj_callVv (na := 1) F (c_X8_leaveOutClosedCells (A := A) (S := drS cx cy p) hk (by rw [wA_n (by omega), wA_s]) (fun i hi => by rw [wA_n (by omega), wA_n (by omega)]; exact hA i hi)) (gl_V mk_X8_165 vw_X8_leaveOutClosedCells) rfl rfl rfl (by decide +kernel) ⟨Nat.le_of_ble_eq_true rfl, Nat.le_of_ble_eq_true rfl⟩ (by assumption) rfl rfl rfl (Nat.le_of_ble_eq_true rfl) ⟨Nat.le_of_ble_eq_true rfl, Nat.le_of_ble_eq_true rfl⟩ dX8_takeCellsFromBuffer_21 (fun M21 hp21 => ?_)
  obtain rfl := hp21.symm
  refine ret _ _ _ dX8_takeCellsFromBuffer_24 ?_
  rw [show (wA M (7 + 3 * k + 1 + 1) (rowsOf (drS cx cy p))).1 1 = M.1 1 from wA_n (by omega)]
/-- how many cells differ -/
def dfC (f g : Nat → Int32) : Nat := fb_ct (fun c => !decide (f c = g c)) 256
set_option maxRecDepth 100000 in
set_option maxHeartbeats 1000000 in
theorem c_X8_changedCells {l : Launch} {E : Ee} {M : Mm} {a b : Nat} (ka : kd a = .inr (0, 256, 0, 0)) (kb : kd b = .inr (0, 256, 0, 0)) : CtI l E yX8_changedCells (.code yX8_changedCells cX8_changedCells 4 (some .int) :: gl) ({ frames := 0, cells := 0, slots := 0, locals := 0 } : Room) M [.ref (E.2.2 a), .ref (E.2.2 b)] 0 0 (fun r M2 => r = nI (dfC (M.1 a) (M.1 b)) ∧ M2 = M) := by
  refine ctI_of (L0 := [some (.ref (E.2.2 a)), some (.ref (E.2.2 b)), none, none]) (by decide) rfl (Nat.le_of_ble_eq_true rfl) rfl ?_
  intro Z hl hE hnl F ret
  subst hE
  have lo : ∀ i, i ≤ 256 → JJ Z (0, 0) (M) 4 [some (.ref ((zE Z).2.2 a)), some (.ref ((zE Z).2.2 b)), some (.int (nI (fb_ct (fun c => !decide (M.1 a c = M.1 b c)) i))), some (.int (nI i))] [] := by
    refine jj_loop (256) ?_ ?_
    · refine jj_iload_n F dX8_changedCells_4 rfl ?_
      refine jj_sipush F (v := nI 256) dX8_changedCells_5 (by decide) ?_
      refine jj_icmp_ge F (tgt := 29) dX8_changedCells_8 (by decide) (fun _ => ?_) (fun h9 => absurd (nI_le (by omega) (by omega)) h9)
      refine jj_iload_n F dX8_changedCells_29 rfl ?_
      exact ret _ _ _ _ dX8_changedCells_30 rfl ⟨rfl, rfl⟩
    · intro i hi ih
      refine jj_iload_n F dX8_changedCells_4 rfl ?_
      refine jj_sipush F (v := nI 256) dX8_changedCells_5 (by decide) ?_
      refine jj_icmp_ge F (tgt := 29) dX8_changedCells_8 (by decide) (fun h9 => absurd h9 (nI_ge (by omega) (by omega))) (fun _ => ?_)
      refine jj_aload_n F dX8_changedCells_11 rfl ?_
      refine jj_iload_n F dX8_changedCells_12 rfl ?_
      refine jj_iald F (by assumption) rfl (by omega) dX8_changedCells_13 ?_
      refine jj_aload_n F dX8_changedCells_14 rfl ?_
      refine jj_iload_n F dX8_changedCells_15 rfl ?_
      refine jj_iald F (by assumption) rfl (by omega) dX8_changedCells_16 ?_
      refine jj_icmp_eq F (tgt := 23) dX8_changedCells_17 (by decide) (fun h17 => ?_) (fun h17 => ?_)
      · refine jj_iinc F dX8_changedCells_23 rfl (by first | exact iinc1 _ | rfl) (by rw [hnl]; decide) ?_
        dsimp only [lq_st, lq_clr, lq_no]
        refine jj_goto F (tgt := 4) dX8_changedCells_26 (by decide) ?_
        refine jj_eqL ?_ ih
        simp [fb_ct, h17]
      · refine jj_iinc F dX8_changedCells_20 rfl (by first | exact iinc1 _ | rfl) (by rw [hnl]; decide) ?_
        dsimp only [lq_st, lq_clr, lq_no]
        refine jj_iinc F dX8_changedCells_23 rfl (by first | exact iinc1 _ | rfl) (by rw [hnl]; decide) ?_
        dsimp only [lq_st, lq_clr, lq_no]
        refine jj_goto F (tgt := 4) dX8_changedCells_26 (by decide) ?_
        refine jj_eqL ?_ ih
        simp [fb_ct, h17]
  refine jj_iconst F (v := nI 0) dX8_changedCells_0 (by decide) ?_
  refine jj_istore_n F dX8_changedCells_1 (by rw [hnl]; decide) ?_
  dsimp only [lq_st, lq_clr, lq_no]
  refine jj_iconst F (v := nI 0) dX8_changedCells_2 (by decide) ?_
  refine jj_istore_n F dX8_changedCells_3 (by rw [hnl]; decide) ?_
  dsimp only [lq_st, lq_clr, lq_no]
  exact lo 0 (by omega)
theorem shM_o {M : Mm} {b : Nat} {C : Nat → Nat → Bool} {n : Nat} {t sw : Int32} {a : Nat} (h2 : a ≠ b + 2) (h3 : a ≠ b + 3) (h4 : a ≠ b + 4) (h5 : a < b + 6 ∨ b + 126 ≤ a) (hn : n ≤ 60) : (shM M b C n t sw).1 a = M.1 a := by
  unfold shM
  rw [wA_n h4, wA_n h3, wA_n h2, famL_out (by omega)]
theorem shM_2 {M : Mm} {b : Nat} {C : Nat → Nat → Bool} {n : Nat} {t sw : Int32} : (shM M b C n t sw).1 (b + 2) = shTop M C n t sw := by unfold shM; rw [wA_n (by omega), wA_n (by omega), wA_s]
theorem shM_3 {M : Mm} {b : Nat} {C : Nat → Nat → Bool} {n : Nat} {t sw : Int32} : (shM M b C n t sw).1 (b + 3) = shCol M C n t sw := by unfold shM; rw [wA_n (by omega), wA_s]
theorem shM_4 {M : Mm} {b : Nat} {C : Nat → Nat → Bool} {n : Nat} {t sw : Int32} : (shM M b C n t sw).1 (b + 4) = OF (shTop M C n t sw) 256 := by unfold shM; rw [wA_s]
theorem shM_L {M : Mm} {b : Nat} {C : Nat → Nat → Bool} {n i : Nat} {t sw : Int32} (hi : i < n) : (shM M b C n t sw).1 (b + 5 + 2 * i + 1) = rowsOf (LSf M C sw n i) := by unfold shM; rw [wA_n (by omega), wA_n (by omega), wA_n (by omega), famL_in hi]
theorem shM_22 {M : Mm} {b : Nat} {C : Nat → Nat → Bool} {n : Nat} {t sw : Int32} : (shM M b C n t sw).2 = M.2 := rfl
set_option maxRecDepth 100000 in
set_option maxHeartbeats 1000000 in
theorem c_X8_changedBySwitching {l : Launch} {E : Ee} {M : Mm} {x : Int32} {n : Nat} (hn : M.1 5 1 = nI n) (h60 : n ≤ 60) {C : Nat → Nat → Bool} (hC : ∀ i, i < 60 → M.1 (7 + 3 * i + 1 + 1) = rowsOf (C i)) : CtI l E yX8_changedBySwitching (.code yX8_changedBySwitching cX8_changedBySwitching 2 (some .int) :: gl) ({ frames := 4, cells := 0, slots := 0, locals := 95 } : Room) M [.ref (E.2.2 0), .int x] 0 0 (fun r M2 => r = nI (dfC (M.1 207) (shCol M C n (M.1 0 8) x)) ∧ M2 = shM M 329 C n (M.1 0 8) x) := by
  refine ctI_of (L0 := [some (.ref (E.2.2 0)), some (.int x)]) (by decide) rfl (Nat.le_of_ble_eq_true rfl) rfl ?_
  intro Z hl hE hnl F ret
  subst hE
  have in_X7 : ∀ w ∈ u_ws RX7 TX7 4, w ∈ (.code yX8_changedBySwitching cX8_changedBySwitching 2 (some .int) :: gl) := fun w h => List.mem_cons_of_mem _ (lay_X7 w h)
  have in_X8 : ∀ w ∈ u_ws RX8 TX8 9, w ∈ (.code yX8_changedBySwitching cX8_changedBySwitching 2 (some .int) :: gl) := fun w h => List.mem_cons_of_mem _ (lay_X8 w h)
  have g19 : FG Z 19 8 1 := fg_mk F (C := RX8) (T := TX8) (N := 9) in_X8 rfl (by decide) rfl (List.mem_cons_of_mem _ fk_X8_19)
  have g39 : FG Z 39 8 4 := fg_mk F (C := RX8) (T := TX8) (N := 9) in_X8 rfl (by decide) rfl (List.mem_cons_of_mem _ fk_X8_39)
  have g43 : FG Z 43 8 5 := fg_mk F (C := RX8) (T := TX8) (N := 9) in_X8 rfl (by decide) rfl (List.mem_cons_of_mem _ fk_X8_43)
  have g60 : FG Z 60 8 8 := fg_mk F (C := RX8) (T := TX8) (N := 9) in_X8 rfl (by decide) rfl (List.mem_cons_of_mem _ fk_X8_60)
  have g154 : FG Z 154 7 2 := fg_mk F (C := RX7) (T := TX7) (N := 4) in_X7 rfl (by decide) rfl (List.mem_cons_of_mem _ fk_X8_154)
  have kb := kd_B
  have kl := kd_Log
  have ke := kd_ents
  have ks := kd_sc0 sc204
  have ks1 := kd_sc1 sc204
  have ks2 := kd_sc2 sc204
  have ks3 := kd_sc3 sc204
  have ks4 := kd_sc4 sc204
  have kt := kd_sc0 sc329
  have kt3 := kd_sc3 sc329
  have kp := kd_PT
  have kL := kd_Ls
  have cs8 := cs_scr
  have k58 := kd_458
  have k59 := kd_459
  have kr := kd_Reg
  have km := kd_marks
  refine jj_aload_n F dX8_changedBySwitching_0 rfl ?_
  refine jj_getr F g43 (by assumption) (by rfl) dX8_changedBySwitching_1 ?_
  refine jj_aload_n F dX8_changedBySwitching_4 rfl ?_
  refine jj_getr F g19 (by assumption) (by rfl) dX8_changedBySwitching_5 ?_
  refine jj_aload_n F dX8_changedBySwitching_8 rfl ?_
  refine jj_geti F g60 (by assumption) (by rfl) dX8_changedBySwitching_9 ?_
  refine jj_iload_n F dX8_changedBySwitching_12 rfl ?_
  refine jj_callVv (na := 3) F (c_X7_show (by first | exact sc204 | exact sc329) hn h60 hC) (gl_V mk_X8_244 vw_X7_show) rfl rfl rfl (by decide +kernel) ⟨Nat.le_of_ble_eq_true rfl, Nat.le_of_ble_eq_true rfl⟩ (by assumption) rfl rfl rfl (Nat.le_of_ble_eq_true rfl) ⟨Nat.le_of_ble_eq_true rfl, Nat.le_of_ble_eq_true rfl⟩ dX8_changedBySwitching_13 (fun M13 hp13 => ?_)
  obtain rfl := hp13.symm
  refine jj_aload_n F dX8_changedBySwitching_16 rfl ?_
  refine jj_getr F g39 (by assumption) (by rfl) dX8_changedBySwitching_17 ?_
  refine jj_getr F g154 (by assumption) (by rfl) dX8_changedBySwitching_20 ?_
  refine jj_aload_n F dX8_changedBySwitching_23 rfl ?_
  refine jj_getr F g43 (by assumption) (by rfl) dX8_changedBySwitching_24 ?_
  refine jj_getr F g154 (by assumption) (by rfl) dX8_changedBySwitching_27 ?_
  refine jj_callSi (na := 2) F (c_X8_changedCells (by assumption) (by assumption)) (gl_S mk_X8_233 vw_X8_changedCells) rfl rfl rfl (by decide +kernel) ⟨Nat.le_of_ble_eq_true rfl, Nat.le_of_ble_eq_true rfl⟩ rfl rfl (Nat.le_of_ble_eq_true rfl) ⟨Nat.le_of_ble_eq_true rfl, Nat.le_of_ble_eq_true rfl⟩ dX8_changedBySwitching_30 (fun r30 M30 hp30 => ?_)
  obtain ⟨rfl, rfl⟩ := symm2 hp30
  refine ret _ _ _ _ dX8_changedBySwitching_33 (by first | rfl | exact nar_z (by first | exact Or.inl rfl | exact Or.inr rfl | exact b2i_01 _ | assumption)) ?_
  refine ⟨?_, rfl⟩
  show nI (dfC ((shM M 329 C n (M.1 0 8) x).1 207) ((shM M 329 C n (M.1 0 8) x).1 (329 + 3))) = _
  rw [shM_o (by decide) (by decide) (by decide) (by decide) h60, shM_3]
/-- the cells of a color in the picture that is shown -/
def colS (M : Mm) (c : Nat) : Nat → Bool := fun d => decide (d < 256) && decide (M.1 207 d = nI c)
theorem colS_w (M : Mm) (S : Nat → Int32) (c : Nat) : colS (wA M 459 S) c = colS M c := by unfold colS; rw [wA_n (by decide)]
set_option maxRecDepth 100000 in
set_option maxHeartbeats 1000000 in
theorem c_X8_differentColors {l : Launch} {E : Ee} {M : Mm}  : CtI l E yX8_differentColors (.code yX8_differentColors cX8_differentColors 3 (some .int) :: gl) ({ frames := 2, cells := 0, slots := 0, locals := 44 } : Room) M [.ref (E.2.2 0)] 0 0 (fun r M2 => r = nI (fb_ct (fun j => !decide (nI (csz (colS M (j + 1))) ≤ 0)) 9) ∧ M2 = wA M 459 (rowsOf (colS M 9))) := by
  refine ctI_of (L0 := [some (.ref (E.2.2 0)), none, none]) (by decide) rfl (Nat.le_of_ble_eq_true rfl) rfl ?_
  intro Z hl hE hnl F ret
  subst hE
  have in_X8 : ∀ w ∈ u_ws RX8 TX8 9, w ∈ (.code yX8_differentColors cX8_differentColors 3 (some .int) :: gl) := fun w h => List.mem_cons_of_mem _ (lay_X8 w h)
  have g39 : FG Z 39 8 4 := fg_mk F (C := RX8) (T := TX8) (N := 9) in_X8 rfl (by decide) rfl (List.mem_cons_of_mem _ fk_X8_39)
  have g56 : FG Z 56 8 7 := fg_mk F (C := RX8) (T := TX8) (N := 9) in_X8 rfl (by decide) rfl (List.mem_cons_of_mem _ fk_X8_56)
  have kb := kd_B
  have kl := kd_Log
  have ke := kd_ents
  have ks := kd_sc0 sc204
  have ks1 := kd_sc1 sc204
  have ks2 := kd_sc2 sc204
  have ks3 := kd_sc3 sc204
  have ks4 := kd_sc4 sc204
  have kt := kd_sc0 sc329
  have kt3 := kd_sc3 sc329
  have kp := kd_PT
  have kL := kd_Ls
  have cs8 := cs_scr
  have k58 := kd_458
  have k59 := kd_459
  have kr := kd_Reg
  have km := kd_marks
  have lo : ∀ i, i ≤ 9 → JJ Z (0, 0) (wA M 459 (if i = 0 then M.1 459 else rowsOf (colS M i))) 4 [some (.ref ((zE Z).2.2 0)), some (.int (nI (fb_ct (fun j => !decide (nI (csz (colS M (j + 1))) ≤ 0)) i))), some (.int (nI (i + 1)))] [] := by
    refine jj_loop 9 ?_ ?_
    · refine jj_iload_n F dX8_differentColors_4 rfl ?_
      refine jj_bipush F (v := nI 9) dX8_differentColors_5 (by decide) ?_
      refine jj_icmp_gt F (tgt := 41) dX8_differentColors_7 (by decide) (fun _ => ?_) (fun h9 => absurd (nI_lt (by omega) (by omega)) h9)
      refine jj_iload_n F dX8_differentColors_41 rfl ?_
      exact ret _ _ _ _ dX8_differentColors_42 rfl ⟨rfl, rfl⟩
    · intro i hi ih
      have hS9 : (wA (wA M 459 (if i = 0 then M.1 459 else rowsOf (colS M i))) (458 + 1) (rowsOf (fun c => decide (c < 256) && decide ((wA M 459 (if i = 0 then M.1 459 else rowsOf (colS M i))).1 (204 + 3) c = nI (i + 1))))).1 (458 + 1) = rowsOf (colS M (i + 1)) := by rw [wA_s]; exact congrArg rowsOf (colS_w M _ (i + 1))
      refine jj_iload_n F dX8_differentColors_4 rfl ?_
      refine jj_bipush F (v := nI 9) dX8_differentColors_5 (by decide) ?_
      refine jj_icmp_gt F (tgt := 41) dX8_differentColors_7 (by decide) (fun h9 => absurd h9 (nI_nlt (by omega) (by omega))) (fun _ => ?_)
      refine jj_aload_n F dX8_differentColors_10 rfl ?_
      refine jj_getr F g39 (by assumption) (by rfl) dX8_differentColors_11 ?_
      refine jj_iload_n F dX8_differentColors_14 rfl ?_
      refine jj_aload_n F dX8_differentColors_15 rfl ?_
      refine jj_getr F g56 (by assumption) (by rfl) dX8_differentColors_16 ?_
      refine jj_callVv (na := 2) F (c_X7_collectColor sc204 cs8 (by decide)) (gl_V mk_X8_157 vw_X7_collectColor) rfl rfl rfl (by decide +kernel) ⟨Nat.le_of_ble_eq_true rfl, Nat.le_of_ble_eq_true rfl⟩ (by assumption) rfl rfl rfl (Nat.le_of_ble_eq_true rfl) ⟨Nat.le_of_ble_eq_true rfl, Nat.le_of_ble_eq_true rfl⟩ dX8_differentColors_19 (fun M19 hp19 => ?_)
      obtain rfl := hp19.symm
      refine jj_aload_n F dX8_differentColors_22 rfl ?_
      refine jj_getr F g56 (by assumption) (by rfl) dX8_differentColors_23 ?_
      refine jj_callVi (na := 0) F (c_X0_size cs8 hS9) (gl_V mk_X8_143 vw_X0_size) rfl rfl rfl (by decide +kernel) ⟨Nat.le_of_ble_eq_true rfl, Nat.le_of_ble_eq_true rfl⟩ (by assumption) rfl rfl rfl (Nat.le_of_ble_eq_true rfl) ⟨Nat.le_of_ble_eq_true rfl, Nat.le_of_ble_eq_true rfl⟩ dX8_differentColors_26 (fun r26 M26 hp26 => ?_)
      obtain ⟨rfl, rfl⟩ := symm2 hp26
      refine jj_if_le F (tgt := 35) dX8_differentColors_29 (by decide) (fun h29 => ?_) (fun h29 => ?_)
      · refine jj_iinc F dX8_differentColors_35 rfl (by first | exact iinc1 _ | rfl) (by rw [hnl]; decide) ?_
        dsimp only [lq_st, lq_clr, lq_no]
        refine jj_goto F (tgt := 4) dX8_differentColors_38 (by decide) ?_
        refine jj_eqM ?_ (jj_eqL ?_ ih)
        · rw [show (458 + 1 : Nat) = 459 from rfl, wA_wA, if_neg (Nat.succ_ne_zero i)]
          exact wA_rows (fun c => congrFun (colS_w M _ (i + 1)) c)
        · simp [fb_ct, h29]
      · refine jj_iinc F dX8_differentColors_32 rfl (by first | exact iinc1 _ | rfl) (by rw [hnl]; decide) ?_
        dsimp only [lq_st, lq_clr, lq_no]
        refine jj_iinc F dX8_differentColors_35 rfl (by first | exact iinc1 _ | rfl) (by rw [hnl]; decide) ?_
        dsimp only [lq_st, lq_clr, lq_no]
        refine jj_goto F (tgt := 4) dX8_differentColors_38 (by decide) ?_
        refine jj_eqM ?_ (jj_eqL ?_ ih)
        · rw [show (458 + 1 : Nat) = 459 from rfl, wA_wA, if_neg (Nat.succ_ne_zero i)]
          exact wA_rows (fun c => congrFun (colS_w M _ (i + 1)) c)
        · simp [fb_ct, h29]
  refine jj_iconst F (v := nI 0) dX8_differentColors_0 (by decide) ?_
  refine jj_istore_n F dX8_differentColors_1 (by rw [hnl]; decide) ?_
  dsimp only [lq_st, lq_clr, lq_no]
  refine jj_iconst F (v := nI 1) dX8_differentColors_2 (by decide) ?_
  refine jj_istore_n F dX8_differentColors_3 (by rw [hnl]; decide) ?_
  dsimp only [lq_st, lq_clr, lq_no]
  refine jj_eqM ?_ (lo 0 (by omega))
  rw [if_pos rfl, wA_same]
set_option maxRecDepth 100000 in
set_option maxHeartbeats 1000000 in
theorem c_X8_marksSet {l : Launch} {E : Ee} {M : Mm}  : CtI l E yX8_marksSet (.code yX8_marksSet cX8_marksSet 3 (some .int) :: gl) ({ frames := 0, cells := 0, slots := 0, locals := 0 } : Room) M [.ref (E.2.2 0)] 0 0 (fun r M2 => r = nI (fb_ct (fun m => !decide (M.1 (460 + 3 * m) 0 = 0)) 6) ∧ M2 = M) := by
  refine ctI_of (L0 := [some (.ref (E.2.2 0)), none, none]) (by decide) rfl (Nat.le_of_ble_eq_true rfl) rfl ?_
  intro Z hl hE hnl F ret
  subst hE
  have in_X3 : ∀ w ∈ u_ws RX3 TX3 4, w ∈ (.code yX8_marksSet cX8_marksSet 3 (some .int) :: gl) := fun w h => List.mem_cons_of_mem _ (lay_X3 w h)
  have in_X8 : ∀ w ∈ u_ws RX8 TX8 9, w ∈ (.code yX8_marksSet cX8_marksSet 3 (some .int) :: gl) := fun w h => List.mem_cons_of_mem _ (lay_X8 w h)
  have g32 : FG Z 32 8 3 := fg_mk F (C := RX8) (T := TX8) (N := 9) in_X8 rfl (by decide) rfl (List.mem_cons_of_mem _ fk_X8_32)
  have g71 : FG Z 71 3 0 := fg_mk F (C := RX3) (T := TX3) (N := 4) in_X3 rfl (by decide) rfl (List.mem_cons_of_mem _ fk_X8_71)
  have kb := kd_B
  have kl := kd_Log
  have ke := kd_ents
  have ks := kd_sc0 sc204
  have ks1 := kd_sc1 sc204
  have ks2 := kd_sc2 sc204
  have ks3 := kd_sc3 sc204
  have ks4 := kd_sc4 sc204
  have kt := kd_sc0 sc329
  have kt3 := kd_sc3 sc329
  have kp := kd_PT
  have kL := kd_Ls
  have cs8 := cs_scr
  have k58 := kd_458
  have k59 := kd_459
  have kr := kd_Reg
  have km := kd_marks
  have lo : ∀ i, i ≤ 6 → JJ Z (0, 0) (M) 4 [some (.ref ((zE Z).2.2 0)), some (.int (nI (fb_ct (fun m => !decide (M.1 (460 + 3 * m) 0 = 0)) i))), some (.int (nI i))] [] := by
    refine jj_loop (6) ?_ ?_
    · refine jj_iload_n F dX8_marksSet_4 rfl ?_
      refine jj_bipush F (v := nI 6) dX8_marksSet_5 (by decide) ?_
      refine jj_icmp_ge F (tgt := 31) dX8_marksSet_7 (by decide) (fun _ => ?_) (fun h9 => absurd (nI_le (by omega) (by omega)) h9)
      refine jj_iload_n F dX8_marksSet_31 rfl ?_
      exact ret _ _ _ _ dX8_marksSet_32 rfl ⟨rfl, rfl⟩
    · intro i hi ih
      have kmi := kd_mk0 i hi
      refine jj_iload_n F dX8_marksSet_4 rfl ?_
      refine jj_bipush F (v := nI 6) dX8_marksSet_5 (by decide) ?_
      refine jj_icmp_ge F (tgt := 31) dX8_marksSet_7 (by decide) (fun h9 => absurd h9 (nI_ge (by omega) (by omega))) (fun _ => ?_)
      refine jj_aload_n F dX8_marksSet_10 rfl ?_
      refine jj_getr F g32 (by assumption) (by rfl) dX8_marksSet_11 ?_
      refine jj_iload_n F dX8_marksSet_14 rfl ?_
      refine jj_aald F (by assumption) rfl (by omega) dX8_marksSet_15 ?_
      refine jj_geti F g71 (by assumption) (by rfl) dX8_marksSet_16 ?_
      refine jj_if_eq F (tgt := 25) dX8_marksSet_19 (by decide) (fun h19 => ?_) (fun h19 => ?_)
      · refine jj_iinc F dX8_marksSet_25 rfl (by first | exact iinc1 _ | rfl) (by rw [hnl]; decide) ?_
        dsimp only [lq_st, lq_clr, lq_no]
        refine jj_goto F (tgt := 4) dX8_marksSet_28 (by decide) ?_
        refine jj_eqL ?_ ih
        simp [fb_ct, h19]
      · refine jj_iinc F dX8_marksSet_22 rfl (by first | exact iinc1 _ | rfl) (by rw [hnl]; decide) ?_
        dsimp only [lq_st, lq_clr, lq_no]
        refine jj_iinc F dX8_marksSet_25 rfl (by first | exact iinc1 _ | rfl) (by rw [hnl]; decide) ?_
        dsimp only [lq_st, lq_clr, lq_no]
        refine jj_goto F (tgt := 4) dX8_marksSet_28 (by decide) ?_
        refine jj_eqL ?_ ih
        simp [fb_ct, h19]
  refine jj_iconst F (v := nI 0) dX8_marksSet_0 (by decide) ?_
  refine jj_istore_n F dX8_marksSet_1 (by rw [hnl]; decide) ?_
  dsimp only [lq_st, lq_clr, lq_no]
  refine jj_iconst F (v := nI 0) dX8_marksSet_2 (by decide) ?_
  refine jj_istore_n F dX8_marksSet_3 (by rw [hnl]; decide) ?_
  dsimp only [lq_st, lq_clr, lq_no]
  exact lo 0 (by omega)
def coF (M : Mm) (u : Int32) : Nat → Int32
  | 0 => nI 0
  | i + 1 => if M.1 (7 + 3 * i) 1 = u then coF M u i + M.1 208 i else coF M u i
set_option maxRecDepth 100000 in
set_option maxHeartbeats 1000000 in
theorem c_X8_cellsOf {l : Launch} {E : Ee} {M : Mm} {u : Int32} {n : Nat} (hn : M.1 5 1 = nI n) (h60 : n ≤ 60) : CtI l E yX8_cellsOf (.code yX8_cellsOf cX8_cellsOf 4 (some .int) :: gl) ({ frames := 0, cells := 0, slots := 0, locals := 0 } : Room) M [.ref (E.2.2 0), .int u] 0 0 (fun r M2 => r = coF M u n ∧ M2 = M) := by
  refine ctI_of (L0 := [some (.ref (E.2.2 0)), some (.int u), none, none]) (by decide) rfl (Nat.le_of_ble_eq_true rfl) rfl ?_
  intro Z hl hE hnl F ret
  subst hE
  have in_X2 : ∀ w ∈ u_ws RX2 TX2 3, w ∈ (.code yX8_cellsOf cX8_cellsOf 4 (some .int) :: gl) := fun w h => List.mem_cons_of_mem _ (lay_X2 w h)
  have in_X4 : ∀ w ∈ u_ws RX4 TX4 9, w ∈ (.code yX8_cellsOf cX8_cellsOf 4 (some .int) :: gl) := fun w h => List.mem_cons_of_mem _ (lay_X4 w h)
  have in_X7 : ∀ w ∈ u_ws RX7 TX7 4, w ∈ (.code yX8_cellsOf cX8_cellsOf 4 (some .int) :: gl) := fun w h => List.mem_cons_of_mem _ (lay_X7 w h)
  have in_X8 : ∀ w ∈ u_ws RX8 TX8 9, w ∈ (.code yX8_cellsOf cX8_cellsOf 4 (some .int) :: gl) := fun w h => List.mem_cons_of_mem _ (lay_X8 w h)
  have g19 : FG Z 19 8 1 := fg_mk F (C := RX8) (T := TX8) (N := 9) in_X8 rfl (by decide) rfl (List.mem_cons_of_mem _ fk_X8_19)
  have g39 : FG Z 39 8 4 := fg_mk F (C := RX8) (T := TX8) (N := 9) in_X8 rfl (by decide) rfl (List.mem_cons_of_mem _ fk_X8_39)
  have g65 : FG Z 65 2 1 := fg_mk F (C := RX2) (T := TX2) (N := 3) in_X2 rfl (by decide) rfl (List.mem_cons_of_mem _ fk_X8_65)
  have g269 : FG Z 269 2 0 := fg_mk F (C := RX2) (T := TX2) (N := 3) in_X2 rfl (by decide) rfl (List.mem_cons_of_mem _ fk_X8_269)
  have g309 : FG Z 309 4 1 := fg_mk F (C := RX4) (T := TX4) (N := 9) in_X4 rfl (by decide) rfl (List.mem_cons_of_mem _ fk_X8_309)
  have g353 : FG Z 353 7 3 := fg_mk F (C := RX7) (T := TX7) (N := 4) in_X7 rfl (by decide) rfl (List.mem_cons_of_mem _ fk_X8_353)
  have kb := kd_B
  have kl := kd_Log
  have ke := kd_ents
  have ks := kd_sc0 sc204
  have ks1 := kd_sc1 sc204
  have ks2 := kd_sc2 sc204
  have ks3 := kd_sc3 sc204
  have ks4 := kd_sc4 sc204
  have kt := kd_sc0 sc329
  have kt3 := kd_sc3 sc329
  have kp := kd_PT
  have kL := kd_Ls
  have cs8 := cs_scr
  have k58 := kd_458
  have k59 := kd_459
  have kr := kd_Reg
  have km := kd_marks
  have lo : ∀ i, i ≤ n → JJ Z (0, 0) (M) 4 [some (.ref ((zE Z).2.2 0)), some (.int u), some (.int (coF M u i)), some (.int (nI i))] [] := by
    refine jj_loop (n) ?_ ?_
    · refine jj_iload_n F dX8_cellsOf_4 rfl ?_
      refine jj_aload_n F dX8_cellsOf_5 rfl ?_
      refine jj_getr F g19 (by assumption) (by rfl) dX8_cellsOf_6 ?_
      refine jj_geti F g65 (by assumption) (by rfl) dX8_cellsOf_9 ?_
      rw [hn]
      refine jj_icmp_ge F (tgt := 49) dX8_cellsOf_12 (by decide) (fun _ => ?_) (fun h9 => absurd (nI_le (by omega) (by omega)) h9)
      refine jj_iload_n F dX8_cellsOf_49 rfl ?_
      exact ret _ _ _ _ dX8_cellsOf_50 rfl ⟨rfl, rfl⟩
    · intro i hi ih
      have ko := kd_op i (by omega)
      refine jj_iload_n F dX8_cellsOf_4 rfl ?_
      refine jj_aload_n F dX8_cellsOf_5 rfl ?_
      refine jj_getr F g19 (by assumption) (by rfl) dX8_cellsOf_6 ?_
      refine jj_geti F g65 (by assumption) (by rfl) dX8_cellsOf_9 ?_
      rw [hn]
      refine jj_icmp_ge F (tgt := 49) dX8_cellsOf_12 (by decide) (fun h9 => absurd h9 (nI_ge (by omega) (by omega))) (fun _ => ?_)
      refine jj_aload_n F dX8_cellsOf_15 rfl ?_
      refine jj_getr F g19 (by assumption) (by rfl) dX8_cellsOf_16 ?_
      refine jj_getr F g269 (by assumption) (by rfl) dX8_cellsOf_19 ?_
      refine jj_iload_n F dX8_cellsOf_22 rfl ?_
      refine jj_aald F (by assumption) rfl (by omega) dX8_cellsOf_23 ?_
      refine jj_geti F g309 (by assumption) (by rfl) dX8_cellsOf_24 ?_
      refine jj_iload_n F dX8_cellsOf_27 rfl ?_
      refine jj_icmp_ne F (tgt := 43) dX8_cellsOf_28 (by decide) (fun h28 => ?_) (fun h28 => ?_)
      · refine jj_iinc F dX8_cellsOf_43 rfl (by first | exact iinc1 _ | rfl) (by rw [hnl]; decide) ?_
        dsimp only [lq_st, lq_clr, lq_no]
        refine jj_goto F (tgt := 4) dX8_cellsOf_46 (by decide) ?_
        refine jj_eqL ?_ ih
        simp [coF, h28]
      · refine jj_iload_n F dX8_cellsOf_31 rfl ?_
        refine jj_aload_n F dX8_cellsOf_32 rfl ?_
        refine jj_getr F g39 (by assumption) (by rfl) dX8_cellsOf_33 ?_
        refine jj_getr F g353 (by assumption) (by rfl) dX8_cellsOf_36 ?_
        refine jj_iload_n F dX8_cellsOf_39 rfl ?_
        refine jj_iald F (by assumption) rfl (by omega) dX8_cellsOf_40 ?_
        refine jj_iadd F dX8_cellsOf_41 ?_
        refine jj_istore_n F dX8_cellsOf_42 (by rw [hnl]; decide) ?_
        dsimp only [lq_st, lq_clr, lq_no]
        refine jj_iinc F dX8_cellsOf_43 rfl (by first | exact iinc1 _ | rfl) (by rw [hnl]; decide) ?_
        dsimp only [lq_st, lq_clr, lq_no]
        refine jj_goto F (tgt := 4) dX8_cellsOf_46 (by decide) ?_
        refine jj_eqL ?_ ih
        simp [coF, h28]
  refine jj_iconst F (v := nI 0) dX8_cellsOf_0 (by decide) ?_
  refine jj_istore_n F dX8_cellsOf_1 (by rw [hnl]; decide) ?_
  dsimp only [lq_st, lq_clr, lq_no]
  refine jj_iconst F (v := nI 0) dX8_cellsOf_2 (by decide) ?_
  refine jj_istore_n F dX8_cellsOf_3 (by rw [hnl]; decide) ?_
  dsimp only [lq_st, lq_clr, lq_no]
  exact lo 0 (by omega)
def crA (M : Mm) (s0 : Rs) : Nat → Rs × Nat
  | 0 => (s0, 0)
  | i + 1 => ((ptA (nI 0) (colS M i, (crA M s0 i).1.2.1, (crA M s0 i).1.2.2) 256).1, (crA M s0 i).2 + (ptA (nI 0) (colS M i, (crA M s0 i).1.2.1, (crA M s0 i).1.2.2) 256).2)
theorem crA_s (M : Mm) (s0 : Rs) (i : Nat) : crA M s0 (i + 1) = ((ptA (nI 0) (colS M i, (crA M s0 i).1.2.1, (crA M s0 i).1.2.2) 256).1, (crA M s0 i).2 + (ptA (nI 0) (colS M i, (crA M s0 i).1.2.1, (crA M s0 i).1.2.2) 256).2) := rfl
theorem rok_cr {M : Mm} {s0 : Rs} (h : rok s0) : ∀ i, rok (crA M s0 i).1
  | 0 => h
  | i + 1 => by
    have ih := rok_cr h (M := M) i
    rw [crA_s]
    have hN : (256 : Nat) ≤ 256 := Nat.le_refl _
    revert hN
    generalize hM : (256 : Nat) = N
    intro hN
    dsimp only
    exact rok_ptA (s0 := (colS M i, (crA M s0 i).1.2.1, (crA M s0 i).1.2.2)) ⟨ih.1, ih.2⟩ N (by omega)
def crM (M : Mm) (s0 : Rs) (i : Nat) : Mm := wA (regM M (crA M s0 i).1) 459 (if i = 0 then M.1 459 else rowsOf (colS M (i - 1)))
theorem colS_cr (M : Mm) (s0 : Rs) (i c : Nat) : colS (crM M s0 i) c = colS M c := by unfold colS crM; rw [wA_n (by decide), regM_o (by decide) (by decide) (by decide)]
theorem crM_s (M : Mm) (s0 : Rs) (i : Nat) (t : Rs) : regM (wA (crM M s0 i) (458 + 1) (rowsOf (colS M i))) t = wA (regM M t) 459 (rowsOf (colS M i)) := by
  unfold crM
  rw [show (458 + 1 : Nat) = 459 from rfl, wA_wA]
  refine mm_ext (fun a => ?_) rfl
  by_cases h1 : a = 457
  · subst h1; rw [regM_457, wA_n (by decide), regM_457]
  · by_cases h2 : a = 456
    · subst h2; rw [regM_456, wA_n (by decide), regM_456]
    · by_cases h3 : a = 454
      · subst h3
        have e1 : ∀ (N : Mm) (u : Rs), (regM N u).1 454 = upd (N.1 454) 2 (nI u.2.2) := fun N u => by unfold regM; rw [wA_n (by decide), wA_n (by decide), wA_s]
        rw [e1, wA_n (by decide), e1, wA_n (by decide), e1]
        funext j
        by_cases hj : j = 2 <;> simp [upd, hj]
      · rw [regM_o h3 h2 h1]
        by_cases h4 : a = 459
        · subst h4; rw [wA_s, wA_s]
        · rw [wA_n h4, wA_n h4, regM_o h3 h2 h1, regM_o h3 h2 h1]
set_option maxRecDepth 100000 in
set_option maxHeartbeats 1000000 in
theorem c_X8_colorRegions {l : Launch} {E : Ee} {M : Mm} {R : Nat → Bool} {Q : Nat → Nat} {q : Nat} (hR : M.1 456 = rowsOf R) (hQ : M.1 457 = qA Q) (hq : M.1 454 2 = nI q) (hok : rok (R, Q, q)) : CtI l E yX8_colorRegions (.code yX8_colorRegions cX8_colorRegions 3 (some .int) :: gl) ({ frames := 4, cells := 0, slots := 0, locals := 93 } : Room) M [.ref (E.2.2 0)] 0 0 (fun r M2 => r = nI (crA M (R, Q, q) 10).2 ∧ M2 = crM M (R, Q, q) 10) := by
  refine ctI_of (L0 := [some (.ref (E.2.2 0)), none, none]) (by decide) rfl (Nat.le_of_ble_eq_true rfl) rfl ?_
  intro Z hl hE hnl F ret
  subst hE
  have in_X8 : ∀ w ∈ u_ws RX8 TX8 9, w ∈ (.code yX8_colorRegions cX8_colorRegions 3 (some .int) :: gl) := fun w h => List.mem_cons_of_mem _ (lay_X8 w h)
  have g39 : FG Z 39 8 4 := fg_mk F (C := RX8) (T := TX8) (N := 9) in_X8 rfl (by decide) rfl (List.mem_cons_of_mem _ fk_X8_39)
  have g49 : FG Z 49 8 6 := fg_mk F (C := RX8) (T := TX8) (N := 9) in_X8 rfl (by decide) rfl (List.mem_cons_of_mem _ fk_X8_49)
  have g56 : FG Z 56 8 7 := fg_mk F (C := RX8) (T := TX8) (N := 9) in_X8 rfl (by decide) rfl (List.mem_cons_of_mem _ fk_X8_56)
  have kb := kd_B
  have kl := kd_Log
  have ke := kd_ents
  have ks := kd_sc0 sc204
  have ks1 := kd_sc1 sc204
  have ks2 := kd_sc2 sc204
  have ks3 := kd_sc3 sc204
  have ks4 := kd_sc4 sc204
  have kt := kd_sc0 sc329
  have kt3 := kd_sc3 sc329
  have kp := kd_PT
  have kL := kd_Ls
  have cs8 := cs_scr
  have k58 := kd_458
  have k59 := kd_459
  have kr := kd_Reg
  have km := kd_marks
  have lo : ∀ i, i ≤ 10 → JJ Z (0, 0) (crM M (R, Q, q) i) 4 [some (.ref ((zE Z).2.2 0)), some (.int (nI (crA M (R, Q, q) i).2)), some (.int (nI i))] [] := by
    refine jj_loop 10 ?_ ?_
    · refine jj_iload_n F dX8_colorRegions_4 rfl ?_
      refine jj_bipush F (v := nI 9) dX8_colorRegions_5 (by decide) ?_
      refine jj_icmp_gt F (tgt := 43) dX8_colorRegions_7 (by decide) (fun _ => ?_) (fun h9 => absurd (nI_lt (by omega) (by omega)) h9)
      refine jj_iload_n F dX8_colorRegions_43 rfl ?_
      exact ret _ _ _ _ dX8_colorRegions_44 rfl ⟨rfl, rfl⟩
    · intro i hi ih
      have hr9 := rok_cr (M := M) hok i
      have ec : (rowsOf (fun c => decide (c < 256) && decide ((crM M (R, Q, q) i).1 (204 + 3) c = nI i))) = rowsOf (colS M i) := congrArg rowsOf (colS_cr M (R, Q, q) i i)
      refine jj_iload_n F dX8_colorRegions_4 rfl ?_
      refine jj_bipush F (v := nI 9) dX8_colorRegions_5 (by decide) ?_
      refine jj_icmp_gt F (tgt := 43) dX8_colorRegions_7 (by decide) (fun h9 => absurd h9 (nI_nlt (by omega) (by omega))) (fun _ => ?_)
      refine jj_aload_n F dX8_colorRegions_10 rfl ?_
      refine jj_getr F g39 (by assumption) (by rfl) dX8_colorRegions_11 ?_
      refine jj_iload_n F dX8_colorRegions_14 rfl ?_
      refine jj_aload_n F dX8_colorRegions_15 rfl ?_
      refine jj_getr F g56 (by assumption) (by rfl) dX8_colorRegions_16 ?_
      refine jj_callVv (na := 2) F (c_X7_collectColor sc204 cs8 (by decide)) (gl_V mk_X8_157 vw_X7_collectColor) rfl rfl rfl (by decide +kernel) ⟨Nat.le_of_ble_eq_true rfl, Nat.le_of_ble_eq_true rfl⟩ (by assumption) rfl rfl rfl (Nat.le_of_ble_eq_true rfl) ⟨Nat.le_of_ble_eq_true rfl, Nat.le_of_ble_eq_true rfl⟩ dX8_colorRegions_19 (fun M19 hp19 => ?_)
      obtain rfl := hp19.symm
      rw [ec]
      refine jj_iload_n F dX8_colorRegions_22 rfl ?_
      refine jj_aload_n F dX8_colorRegions_23 rfl ?_
      refine jj_getr F g49 (by assumption) (by rfl) dX8_colorRegions_24 ?_
      refine jj_aload_n F dX8_colorRegions_27 rfl ?_
      refine jj_getr F g56 (by assumption) (by rfl) dX8_colorRegions_28 ?_
      refine jj_iconst F (v := nI 0) dX8_colorRegions_31 (by decide) ?_
      refine jj_callVi (na := 2) F (c_X6_parts (S := colS M i) (Q := (crA M (R, Q, q) i).1.2.1) (q := (crA M (R, Q, q) i).1.2.2) cs8 (by decide) (wA_s _ _ _) (by unfold crM; rw [wA_n (by decide), wA_n (by decide), regM_457]) (by unfold crM; rw [wA_n (by decide), wA_n (by decide), regM_454]) ⟨hr9.1, hr9.2⟩) (gl_V mk_X8_334 vw_X6_parts) rfl rfl rfl (by decide +kernel) ⟨Nat.le_of_ble_eq_true rfl, Nat.le_of_ble_eq_true rfl⟩ (by assumption) rfl rfl rfl (Nat.le_of_ble_eq_true rfl) ⟨Nat.le_of_ble_eq_true rfl, Nat.le_of_ble_eq_true rfl⟩ dX8_colorRegions_32 (fun r32 M32 hp32 => ?_)
      obtain ⟨rfl, rfl⟩ := symm2 hp32
      refine jj_iadd F dX8_colorRegions_35 ?_
      refine jj_istore_n F dX8_colorRegions_36 (by rw [hnl]; decide) ?_
      dsimp only [lq_st, lq_clr, lq_no]
      refine jj_iinc F dX8_colorRegions_37 rfl (by first | exact iinc1 _ | rfl) (by rw [hnl]; decide) ?_
      dsimp only [lq_st, lq_clr, lq_no]
      refine jj_goto F (tgt := 4) dX8_colorRegions_40 (by decide) ?_
      refine jj_eqM ?_ (jj_eqL ?_ ih)
      · rw [crM_s]
        unfold crM
        rw [if_neg (Nat.succ_ne_zero i)]
        rfl
      · rw [nI_add]
        rfl
  refine jj_iconst F (v := nI 0) dX8_colorRegions_0 (by decide) ?_
  refine jj_istore_n F dX8_colorRegions_1 (by rw [hnl]; decide) ?_
  dsimp only [lq_st, lq_clr, lq_no]
  refine jj_iconst F (v := nI 0) dX8_colorRegions_2 (by decide) ?_
  refine jj_istore_n F dX8_colorRegions_3 (by rw [hnl]; decide) ?_
  dsimp only [lq_st, lq_clr, lq_no]
  refine jj_eqM ?_ (lo 0 (by omega))
  unfold crM
  rw [if_pos rfl]
  show M = wA (regM M (R, Q, q)) 459 (M.1 459)
  rw [regM_same hR hQ hq, wA_same]
