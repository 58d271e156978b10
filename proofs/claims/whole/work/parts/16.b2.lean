theorem own_v {a : Ab} {j : Nat} (h : opOk (a_t a) (a_op a j)) : ∃ v, v < 5 ∧ a_op a j 1 = nI v := h.2.1
theorem bp2 {M : Mm} {a : Ab} (hn : a_n a ≤ 60) (hop : ∀ i, i < a_n a → ∀ b, b < 6 → M.1 (7 + 3 * i) b = a_op a i b) (hac : ∀ i, i < a_n a → M.1 (7 + 3 * i) 6 = b2i (a_ac a i)) (hopk : ∀ i, i < a_n a → opOk (a_t a) (a_op a i)) : nI (fb_sm (fun ow => fb_ct (fun j => decide (M.1 (7 + 3 * j) 1 = nI ow) && !decide (M.1 (7 + 3 * j) 6 = 0)) (a_n a)) 5) = nI (fb_ct (a_ac a) (a_n a)) := by
  congr 1
  rw [← act_sum (own := fun j => (a_op a j 1).toNatClampNeg) (act := a_ac a) (fun j hj => by
    obtain ⟨v, hv, e⟩ := own_v (hopk j hj)
    rw [e, nI_clamp (by omega)]
    exact hv)]
  refine fb_sm_cong (fun u hu => fb_ct_cong (fun j hj => ?_))
  obtain ⟨v, hv, e⟩ := own_v (hopk j hj)
  rw [hop j hj 1 (by omega), hac j hj, b2i_dec, e, nI_clamp (by omega)]
  congr 1
  rw [Bool.eq_iff_iff]
  simp only [decide_eq_true_eq]
  exact nI_eq (by omega) (by omega)
theorem bp5 {M : Mm} {t : Nat} {own en fa la : Nat → Nat} {lk : List Lz} (ht : t < 2 ^ 31) (h1 : ∀ j, j < 6 → M.1 189 j = nI (own j) ∧ M.1 190 j = nI (en j) ∧ own j < 5 ∧ en j < 200000 ∧ fa j < 257 ∧ la j < 257) (hp : (lzL own en fa la t).Perm lk) : fb_ct (fun j => inF M (nI t) j) 6 = lk.length := by
  have e := ct_perm hp (fun _ => true)
  rw [List.filter_eq_self.mpr (fun _ _ => rfl)] at e
  rw [← e]
  refine fb_ct_cong (fun j hj => ?_)
  obtain ⟨a, b, c, d, _⟩ := h1 j hj
  rw [inF_eq ht b d]
  simp
theorem bp5o {M : Mm} {t u : Nat} {own en fa la : Nat → Nat} {lk : List Lz} (ht : t < 2 ^ 31) (hu : u < 2 ^ 31) (h1 : ∀ j, j < 6 → M.1 189 j = nI (own j) ∧ M.1 190 j = nI (en j) ∧ own j < 5 ∧ en j < 200000 ∧ fa j < 257 ∧ la j < 257) (hp : (lzL own en fa la t).Perm lk) : fb_ct (fun j => inF M (nI t) j && decide (M.1 189 j = nI u)) 6 = (lk.filter (fun z => decide (z.1 = u))).length := by
  rw [← ct_perm hp (fun z => decide (z.1 = u))]
  refine fb_ct_cong (fun j hj => ?_)
  obtain ⟨a, b, c, d, _⟩ := h1 j hj
  rw [inF_eq ht b d, a]
  congr 1
  rw [Bool.eq_iff_iff]
  simp only [decide_eq_true_eq]
  exact nI_eq (by omega) hu
set_option maxRecDepth 100000 in
set_option maxHeartbeats 1000000 in
theorem c_X8_boardProperty {l : Launch} {E : Ee} {M : Mm} {a : Ab} {W w : Nat} (hB : RelB M a W) (hw : w < 10) : CtI l E yX8_boardProperty (.code yX8_boardProperty cX8_boardProperty 2 (some .int) :: gl) ({ frames := 5, cells := 0, slots := 0, locals := 115 } : Room) M [.ref (E.2.2 0), .int (nI w)] 0 0 (fun r M2 => r = bpA a w ∧ RelB M2 a W) := by
  refine ctI_of (L0 := [some (.ref (E.2.2 0)), some (.int (nI w))]) (by decide) rfl (Nat.le_of_ble_eq_true rfl) rfl ?_
  intro Z hl hE hnl F ret
  subst hE
  have in_X2 : ∀ w ∈ u_ws RX2 TX2 3, w ∈ (.code yX8_boardProperty cX8_boardProperty 2 (some .int) :: gl) := fun w h => List.mem_cons_of_mem _ (lay_X2 w h)
  have in_X8 : ∀ w ∈ u_ws RX8 TX8 9, w ∈ (.code yX8_boardProperty cX8_boardProperty 2 (some .int) :: gl) := fun w h => List.mem_cons_of_mem _ (lay_X8 w h)
  have g19 : FG Z 19 8 1 := fg_mk F (C := RX8) (T := TX8) (N := 9) in_X8 rfl (by decide) rfl (List.mem_cons_of_mem _ fk_X8_19)
  have g26 : FG Z 26 8 2 := fg_mk F (C := RX8) (T := TX8) (N := 9) in_X8 rfl (by decide) rfl (List.mem_cons_of_mem _ fk_X8_26)
  have g39 : FG Z 39 8 4 := fg_mk F (C := RX8) (T := TX8) (N := 9) in_X8 rfl (by decide) rfl (List.mem_cons_of_mem _ fk_X8_39)
  have g56 : FG Z 56 8 7 := fg_mk F (C := RX8) (T := TX8) (N := 9) in_X8 rfl (by decide) rfl (List.mem_cons_of_mem _ fk_X8_56)
  have g60 : FG Z 60 8 8 := fg_mk F (C := RX8) (T := TX8) (N := 9) in_X8 rfl (by decide) rfl (List.mem_cons_of_mem _ fk_X8_60)
  have g65 : FG Z 65 2 1 := fg_mk F (C := RX2) (T := TX2) (N := 3) in_X2 rfl (by decide) rfl (List.mem_cons_of_mem _ fk_X8_65)
  have kb := kd_B
  have kl := kd_Log
  have ke := kd_ents
  have ks := kd_sc0 sc204
  have ks1 := kd_sc1 sc204
  have ks2 := kd_sc2 sc204
  have ks3 := kd_sc3 sc204
  have ks4 := kd_sc4 sc204
  have kt := kd_sc0 sc329
  have kt3 := kd_sc3 sc329
  have kp := kd_PT
  have kL := kd_Ls
  have cs8 := cs_scr
  have k58 := kd_458
  have k59 := kd_459
  have kr := kd_Reg
  have km := kd_marks
  obtain ⟨hO, hL, hU, hK, hS, hT, hR0⟩ := id hB
  obtain ⟨h60, ht, htk, hn, hop, hac, hopk, Cb, hC, hCb⟩ := id hO
  obtain ⟨own, en, fa, la, l1, hA, hp⟩ := id hL
  obtain ⟨s1, s2, s3, s4⟩ := id hS
  obtain ⟨S0, hS0⟩ := id hR0.1
  obtain ⟨R, Q, q, hR, hQ, hq, hok⟩ := id hR0.2
  rcases (show w = 0 ∨ w = 1 ∨ w = 2 ∨ w = 3 ∨ w = 4 ∨ w = 5 ∨ w = 6 ∨ w = 7 ∨ w = 8 ∨ w = 9 by omega) with rfl | rfl | rfl | rfl | rfl | rfl | rfl | rfl | rfl | rfl
  · refine jj_iload_n F dX8_boardProperty_0 rfl ?_
    refine jj_tableIn F (off := 51) (tgt := 52) dX8_boardProperty_1 (by decide) (by decide) (by decide) (by decide) ?_
    refine jj_aload_n F dX8_boardProperty_52 rfl ?_
    refine jj_geti F g60 (by assumption) (by rfl) dX8_boardProperty_53 ?_
    refine ret _ _ _ _ dX8_boardProperty_56 (by first | rfl | exact nar_z (by first | exact Or.inl rfl | exact Or.inr rfl | exact b2i_01 _ | assumption)) ?_
    exact ⟨htk, hB⟩
  · refine jj_iload_n F dX8_boardProperty_0 rfl ?_
    refine jj_tableIn F (off := 56) (tgt := 57) dX8_boardProperty_1 (by decide) (by decide) (by decide) (by decide) ?_
    refine jj_aload_n F dX8_boardProperty_57 rfl ?_
    refine jj_getr F g19 (by assumption) (by rfl) dX8_boardProperty_58 ?_
    refine jj_geti F g65 (by assumption) (by rfl) dX8_boardProperty_61 ?_
    refine ret _ _ _ _ dX8_boardProperty_64 (by first | rfl | exact nar_z (by first | exact Or.inl rfl | exact Or.inr rfl | exact b2i_01 _ | assumption)) ?_
    exact ⟨hn, hB⟩
  · refine jj_iload_n F dX8_boardProperty_0 rfl ?_
    refine jj_tableIn F (off := 64) (tgt := 65) dX8_boardProperty_1 (by decide) (by decide) (by decide) (by decide) ?_
    refine jj_aload_n F dX8_boardProperty_65 rfl ?_
    refine jj_getr F g19 (by assumption) (by rfl) dX8_boardProperty_66 ?_
    refine jj_callVi (na := 0) F (c_X2_activeOperations hn (by omega)) (gl_V mk_X8_315 vw_X2_activeOperations) rfl rfl rfl (by decide +kernel) ⟨Nat.le_of_ble_eq_true rfl, Nat.le_of_ble_eq_true rfl⟩ (by assumption) rfl rfl rfl (Nat.le_of_ble_eq_true rfl) ⟨Nat.le_of_ble_eq_true rfl, Nat.le_of_ble_eq_true rfl⟩ dX8_boardProperty_69 (fun r69 M69 hp69 => ?_)
    obtain ⟨rfl, rfl⟩ := symm2 hp69
    refine ret _ _ _ _ dX8_boardProperty_72 (by first | rfl | exact nar_z (by first | exact Or.inl rfl | exact Or.inr rfl | exact b2i_01 _ | assumption)) ?_
    exact ⟨bp2 h60 hop hac hopk, hB⟩
  · refine jj_iload_n F dX8_boardProperty_0 rfl ?_
    refine jj_tableIn F (off := 72) (tgt := 73) dX8_boardProperty_1 (by decide) (by decide) (by decide) (by decide) ?_
    refine jj_aload_n F dX8_boardProperty_73 rfl ?_
    refine jj_getr F g39 (by assumption) (by rfl) dX8_boardProperty_74 ?_
    refine jj_callVi (na := 0) F (c_X7_paintedCells (by first | assumption | exact Or.inl rfl)) (gl_V mk_X8_318 vw_X7_paintedCells) rfl rfl rfl (by decide +kernel) ⟨Nat.le_of_ble_eq_true rfl, Nat.le_of_ble_eq_true rfl⟩ (by assumption) rfl rfl rfl (Nat.le_of_ble_eq_true rfl) ⟨Nat.le_of_ble_eq_true rfl, Nat.le_of_ble_eq_true rfl⟩ dX8_boardProperty_77 (fun r77 M77 hp77 => ?_)
    obtain ⟨rfl, rfl⟩ := symm2 hp77
    refine ret _ _ _ _ dX8_boardProperty_80 (by first | rfl | exact nar_z (by first | exact Or.inl rfl | exact Or.inr rfl | exact b2i_01 _ | assumption)) ?_
    refine ⟨?_, hB⟩
    show nI (fb_ct (fun c => !decide (M.1 206 c = -1)) 256) = _
    rw [s2]
    rfl
  · refine jj_iload_n F dX8_boardProperty_0 rfl ?_
    refine jj_tableIn F (off := 80) (tgt := 81) dX8_boardProperty_1 (by decide) (by decide) (by decide) (by decide) ?_
    refine jj_aload_n F dX8_boardProperty_81 rfl ?_
    refine jj_callVi (na := 0) F c_X8_differentColors (gl_V mk_X8_321 vw_X8_differentColors) rfl rfl rfl (by decide +kernel) ⟨Nat.le_of_ble_eq_true rfl, Nat.le_of_ble_eq_true rfl⟩ (by assumption) rfl rfl rfl (Nat.le_of_ble_eq_true rfl) ⟨Nat.le_of_ble_eq_true rfl, Nat.le_of_ble_eq_true rfl⟩ dX8_boardProperty_82 (fun r82 M82 hp82 => ?_)
    obtain ⟨rfl, rfl⟩ := symm2 hp82
    refine ret _ _ _ _ dX8_boardProperty_85 (by first | rfl | exact nar_z (by first | exact Or.inl rfl | exact Or.inr rfl | exact b2i_01 _ | assumption)) ?_
    refine ⟨?_, RelB_459 hB _⟩
    simp only [colS_A s3]
    rfl
  · refine jj_iload_n F dX8_boardProperty_0 rfl ?_
    refine jj_tableIn F (off := 85) (tgt := 86) dX8_boardProperty_1 (by decide) (by decide) (by decide) (by decide) ?_
    refine jj_aload_n F dX8_boardProperty_86 rfl ?_
    refine jj_getr F g26 (by assumption) (by rfl) dX8_boardProperty_87 ?_
    refine jj_aload_n F dX8_boardProperty_90 rfl ?_
    refine jj_geti F g60 (by assumption) (by rfl) dX8_boardProperty_91 ?_
    rw [htk]
    refine jj_callVi (na := 1) F c_X1_inForce (gl_V mk_X8_212 vw_X1_inForce) rfl rfl rfl (by decide +kernel) ⟨Nat.le_of_ble_eq_true rfl, Nat.le_of_ble_eq_true rfl⟩ (by assumption) rfl rfl rfl (Nat.le_of_ble_eq_true rfl) ⟨Nat.le_of_ble_eq_true rfl, Nat.le_of_ble_eq_true rfl⟩ dX8_boardProperty_94 (fun r94 M94 hp94 => ?_)
    obtain ⟨rfl, rfl⟩ := symm2 hp94
    refine ret _ _ _ _ dX8_boardProperty_97 (by first | rfl | exact nar_z (by first | exact Or.inl rfl | exact Or.inr rfl | exact b2i_01 _ | assumption)) ?_
    refine ⟨?_, hB⟩
    rw [bp5 (by omega) l1 hp]
    rfl
  · refine jj_iload_n F dX8_boardProperty_0 rfl ?_
    refine jj_tableIn F (off := 97) (tgt := 98) dX8_boardProperty_1 (by decide) (by decide) (by decide) (by decide) ?_
    refine jj_aload_n F dX8_boardProperty_98 rfl ?_
    refine jj_getr F g26 (by assumption) (by rfl) dX8_boardProperty_99 ?_
    refine jj_iconst F (v := -1) dX8_boardProperty_102 (by decide) ?_
    refine jj_aload_n F dX8_boardProperty_103 rfl ?_
    refine jj_geti F g60 (by assumption) (by rfl) dX8_boardProperty_104 ?_
    rw [htk]
    refine jj_aload_n F dX8_boardProperty_107 rfl ?_
    refine jj_getr F g56 (by assumption) (by rfl) dX8_boardProperty_108 ?_
    refine jj_callVv (na := 3) F (c_X1_collectClosed (A := fun j => rect (fa j) (la j)) hA cs8 (fun i hi => by omega)) (gl_V mk_X8_190 vw_X1_collectClosed) rfl rfl rfl (by decide +kernel) ⟨Nat.le_of_ble_eq_true rfl, Nat.le_of_ble_eq_true rfl⟩ (by assumption) rfl rfl rfl (Nat.le_of_ble_eq_true rfl) ⟨Nat.le_of_ble_eq_true rfl, Nat.le_of_ble_eq_true rfl⟩ dX8_boardProperty_111 (fun M111 hp111 => ?_)
    obtain rfl := hp111.symm
    refine jj_aload_n F dX8_boardProperty_114 rfl ?_
    refine jj_getr F g56 (by assumption) (by rfl) dX8_boardProperty_115 ?_
    refine jj_callVi (na := 0) F (c_X0_size cs8 (wA_s _ _ _)) (gl_V mk_X8_143 vw_X0_size) rfl rfl rfl (by decide +kernel) ⟨Nat.le_of_ble_eq_true rfl, Nat.le_of_ble_eq_true rfl⟩ (by assumption) rfl rfl rfl (Nat.le_of_ble_eq_true rfl) ⟨Nat.le_of_ble_eq_true rfl, Nat.le_of_ble_eq_true rfl⟩ dX8_boardProperty_118 (fun r118 M118 hp118 => ?_)
    obtain ⟨rfl, rfl⟩ := symm2 hp118
    refine ret _ _ _ _ dX8_boardProperty_121 (by first | rfl | exact nar_z (by first | exact Or.inl rfl | exact Or.inr rfl | exact b2i_01 _ | assumption)) ?_
    refine ⟨?_, RelB_459 hB _⟩
    show _ = nI (csz (held (a_lk a)))
    rw [csz_cong (fun c _ => cloF_m1 (by omega) l1 hp c)]
  · refine jj_iload_n F dX8_boardProperty_0 rfl ?_
    refine jj_tableIn F (off := 121) (tgt := 122) dX8_boardProperty_1 (by decide) (by decide) (by decide) (by decide) ?_
    refine jj_aload_n F dX8_boardProperty_122 rfl ?_
    refine jj_callVi (na := 0) F c_X8_marksSet (gl_V mk_X8_324 vw_X8_marksSet) rfl rfl rfl (by decide +kernel) ⟨Nat.le_of_ble_eq_true rfl, Nat.le_of_ble_eq_true rfl⟩ (by assumption) rfl rfl rfl (Nat.le_of_ble_eq_true rfl) ⟨Nat.le_of_ble_eq_true rfl, Nat.le_of_ble_eq_true rfl⟩ dX8_boardProperty_123 (fun r123 M123 hp123 => ?_)
    obtain ⟨rfl, rfl⟩ := symm2 hp123
    refine ret _ _ _ _ dX8_boardProperty_126 (by first | rfl | exact nar_z (by first | exact Or.inl rfl | exact Or.inr rfl | exact b2i_01 _ | assumption)) ?_
    refine ⟨?_, hB⟩
    show _ = nI (fb_ct (fun m => (a_mk a m).1) 6)
    rw [fb_ct_cong (fun m hm => by rw [(hK m hm).1, b2i_dec])]
  · refine jj_iload_n F dX8_boardProperty_0 rfl ?_
    refine jj_tableIn F (off := 126) (tgt := 127) dX8_boardProperty_1 (by decide) (by decide) (by decide) (by decide) ?_
    refine jj_aload_n F dX8_boardProperty_127 rfl ?_
    refine jj_getr F g39 (by assumption) (by rfl) dX8_boardProperty_128 ?_
    refine jj_aload_n F dX8_boardProperty_131 rfl ?_
    refine jj_getr F g19 (by assumption) (by rfl) dX8_boardProperty_132 ?_
    refine jj_aload_n F dX8_boardProperty_135 rfl ?_
    refine jj_geti F g60 (by assumption) (by rfl) dX8_boardProperty_136 ?_
    rw [htk]
    refine jj_callVi (na := 2) F (c_X7_hiddenOperations sc204 hn h60 s1) (gl_V mk_X8_327 vw_X7_hiddenOperations) rfl rfl rfl (by decide +kernel) ⟨Nat.le_of_ble_eq_true rfl, Nat.le_of_ble_eq_true rfl⟩ (by assumption) rfl rfl rfl (Nat.le_of_ble_eq_true rfl) ⟨Nat.le_of_ble_eq_true rfl, Nat.le_of_ble_eq_true rfl⟩ dX8_boardProperty_139 (fun r139 M139 hp139 => ?_)
    obtain ⟨rfl, rfl⟩ := symm2 hp139
    refine ret _ _ _ _ dX8_boardProperty_142 (by first | rfl | exact nar_z (by first | exact Or.inl rfl | exact Or.inr rfl | exact b2i_01 _ | assumption)) ?_
    refine ⟨?_, hB⟩
    show nI (fb_ct (fun j => decide (M.1 208 j = 0) && !decide (nI (csz (lsA a j)) ≤ 0) && !vanI (M.1 (7 + 3 * j) 4) (M.1 (7 + 3 * j) 5) (nI (a_t a))) (a_n a)) = _
    rw [s4]
    show _ = nI (fb_ct _ _)
    rw [fb_ct_cong (fun j hj => by rw [hop j hj 4 (by omega), hop j hj 5 (by omega)])]
    rfl
  · refine jj_iload_n F dX8_boardProperty_0 rfl ?_
    refine jj_tableOut F (tgt := 143) dX8_boardProperty_1 (by decide) (by decide) ?_
    refine jj_aload_n F dX8_boardProperty_143 rfl ?_
    refine jj_callVi (na := 0) F (c_X8_colorRegions hR hQ hq hok) (gl_V mk_X8_331 vw_X8_colorRegions) rfl rfl rfl (by decide +kernel) ⟨Nat.le_of_ble_eq_true rfl, Nat.le_of_ble_eq_true rfl⟩ (by assumption) rfl rfl rfl (Nat.le_of_ble_eq_true rfl) ⟨Nat.le_of_ble_eq_true rfl, Nat.le_of_ble_eq_true rfl⟩ dX8_boardProperty_144 (fun r144 M144 hp144 => ?_)
    obtain ⟨rfl, rfl⟩ := symm2 hp144
    refine ret _ _ _ _ dX8_boardProperty_147 (by first | rfl | exact nar_z (by first | exact Or.inl rfl | exact Or.inr rfl | exact b2i_01 _ | assumption)) ?_
    refine ⟨?_, RelB_cr hB hok 9⟩
    rw [cr_sum]
    simp only [colS_A s3]
    rfl
set_option maxRecDepth 100000 in
set_option maxHeartbeats 1000000 in
theorem c_X8_operationProperty {l : Launch} {E : Ee} {M : Mm} {a : Ab} {W k w : Nat} (hB : RelB M a W) (hk : k < a_n a) (hw : w < 11) : CtI l E yX8_operationProperty (.code yX8_operationProperty cX8_operationProperty 4 (some .int) :: gl) ({ frames := 4, cells := 0, slots := 0, locals := 93 } : Room) M [.ref (E.2.2 0), .int (nI k), .int (nI w)] 0 0 (fun r M2 => r = opA a k w ∧ RelB M2 a W) := by
  refine ctI_of (L0 := [some (.ref (E.2.2 0)), some (.int (nI k)), some (.int (nI w)), none]) (by decide) rfl (Nat.le_of_ble_eq_true rfl) rfl ?_
  intro Z hl hE hnl F ret
  subst hE
  have in_X2 : ∀ w ∈ u_ws RX2 TX2 3, w ∈ (.code yX8_operationProperty cX8_operationProperty 4 (some .int) :: gl) := fun w h => List.mem_cons_of_mem _ (lay_X2 w h)
  have in_X4 : ∀ w ∈ u_ws RX4 TX4 9, w ∈ (.code yX8_operationProperty cX8_operationProperty 4 (some .int) :: gl) := fun w h => List.mem_cons_of_mem _ (lay_X4 w h)
  have in_X7 : ∀ w ∈ u_ws RX7 TX7 4, w ∈ (.code yX8_operationProperty cX8_operationProperty 4 (some .int) :: gl) := fun w h => List.mem_cons_of_mem _ (lay_X7 w h)
  have in_X8 : ∀ w ∈ u_ws RX8 TX8 9, w ∈ (.code yX8_operationProperty cX8_operationProperty 4 (some .int) :: gl) := fun w h => List.mem_cons_of_mem _ (lay_X8 w h)
  have g19 : FG Z 19 8 1 := fg_mk F (C := RX8) (T := TX8) (N := 9) in_X8 rfl (by decide) rfl (List.mem_cons_of_mem _ fk_X8_19)
  have g39 : FG Z 39 8 4 := fg_mk F (C := RX8) (T := TX8) (N := 9) in_X8 rfl (by decide) rfl (List.mem_cons_of_mem _ fk_X8_39)
  have g49 : FG Z 49 8 6 := fg_mk F (C := RX8) (T := TX8) (N := 9) in_X8 rfl (by decide) rfl (List.mem_cons_of_mem _ fk_X8_49)
  have g60 : FG Z 60 8 8 := fg_mk F (C := RX8) (T := TX8) (N := 9) in_X8 rfl (by decide) rfl (List.mem_cons_of_mem _ fk_X8_60)
  have g128 : FG Z 128 4 3 := fg_mk F (C := RX4) (T := TX4) (N := 9) in_X4 rfl (by decide) rfl (List.mem_cons_of_mem _ fk_X8_128)
  have g140 : FG Z 140 4 8 := fg_mk F (C := RX4) (T := TX4) (N := 9) in_X4 rfl (by decide) rfl (List.mem_cons_of_mem _ fk_X8_140)
  have g269 : FG Z 269 2 0 := fg_mk F (C := RX2) (T := TX2) (N := 3) in_X2 rfl (by decide) rfl (List.mem_cons_of_mem _ fk_X8_269)
  have g309 : FG Z 309 4 1 := fg_mk F (C := RX4) (T := TX4) (N := 9) in_X4 rfl (by decide) rfl (List.mem_cons_of_mem _ fk_X8_309)
  have g338 : FG Z 338 4 0 := fg_mk F (C := RX4) (T := TX4) (N := 9) in_X4 rfl (by decide) rfl (List.mem_cons_of_mem _ fk_X8_338)
  have g341 : FG Z 341 4 2 := fg_mk F (C := RX4) (T := TX4) (N := 9) in_X4 rfl (by decide) rfl (List.mem_cons_of_mem _ fk_X8_341)
  have g344 : FG Z 344 4 5 := fg_mk F (C := RX4) (T := TX4) (N := 9) in_X4 rfl (by decide) rfl (List.mem_cons_of_mem _ fk_X8_344)
  have g347 : FG Z 347 4 6 := fg_mk F (C := RX4) (T := TX4) (N := 9) in_X4 rfl (by decide) rfl (List.mem_cons_of_mem _ fk_X8_347)
  have g350 : FG Z 350 7 0 := fg_mk F (C := RX7) (T := TX7) (N := 4) in_X7 rfl (by decide) rfl (List.mem_cons_of_mem _ fk_X8_350)
  have g353 : FG Z 353 7 3 := fg_mk F (C := RX7) (T := TX7) (N := 4) in_X7 rfl (by decide) rfl (List.mem_cons_of_mem _ fk_X8_353)
  have kb := kd_B
  have kl := kd_Log
  have ke := kd_ents
  have ks := kd_sc0 sc204
  have ks1 := kd_sc1 sc204
  have ks2 := kd_sc2 sc204
  have ks3 := kd_sc3 sc204
  have ks4 := kd_sc4 sc204
  have kt := kd_sc0 sc329
  have kt3 := kd_sc3 sc329
  have kp := kd_PT
  have kL := kd_Ls
  have cs8 := cs_scr
  have k58 := kd_458
  have k59 := kd_459
  have kr := kd_Reg
  have km := kd_marks
  obtain ⟨hO, hL, hU, hK, hS, hT, hR0⟩ := id hB
  obtain ⟨h60, ht, htk, hn, hop, hac, hopk, Cb, hC, hCb⟩ := id hO
  obtain ⟨own, en, fa, la, l1, hA, hp⟩ := id hL
  obtain ⟨s1, s2, s3, s4⟩ := id hS
  obtain ⟨S0, hS0⟩ := id hR0.1
  obtain ⟨R, Q, q, hR, hQ, hq, hok⟩ := id hR0.2
  have ko := kd_op k (by omega)
  have csk := cs_op k (by omega)
  obtain ⟨c0, c1⟩ := id csk
  have csl := cs_sc sc204 k (by omega)
  obtain ⟨e0, e1⟩ := id csl
  have hLk := s1 k hk
  have hCk : M.1 (7 + 3 * k + 1 + 1) = rowsOf (a_C a k) := by rw [hC k (by omega), hCb k hk]
  rcases (show w = 0 ∨ w = 1 ∨ w = 2 ∨ w = 3 ∨ w = 4 ∨ w = 5 ∨ w = 6 ∨ w = 7 ∨ w = 8 ∨ w = 9 ∨ w = 10 by omega) with rfl | rfl | rfl | rfl | rfl | rfl | rfl | rfl | rfl | rfl | rfl
  · refine jj_aload_n F dX8_operationProperty_0 rfl ?_
    refine jj_getr F g19 (by assumption) (by rfl) dX8_operationProperty_1 ?_
    refine jj_getr F g269 (by assumption) (by rfl) dX8_operationProperty_4 ?_
    refine jj_iload_n F dX8_operationProperty_7 rfl ?_
    refine jj_aald F (by assumption) rfl (by omega) dX8_operationProperty_8 ?_
    refine jj_astore_n F dX8_operationProperty_9 (by rw [hnl]; decide) ?_
    dsimp only [lq_st, lq_clr, lq_no]
    refine jj_iload_n F dX8_operationProperty_10 rfl ?_
    refine jj_tableIn F (off := 53) (tgt := 64) dX8_operationProperty_11 (by decide) (by decide) (by decide) (by decide) ?_
    refine jj_aload_n F dX8_operationProperty_64 rfl ?_
    refine jj_geti F g338 (by assumption) (by rfl) dX8_operationProperty_65 ?_
    refine ret _ _ _ _ dX8_operationProperty_68 (by first | rfl | exact nar_z (by first | exact Or.inl rfl | exact Or.inr rfl | exact b2i_01 _ | assumption)) ?_
    exact ⟨hop k hk 0 (by omega), hB⟩
  · refine jj_aload_n F dX8_operationProperty_0 rfl ?_
    refine jj_getr F g19 (by assumption) (by rfl) dX8_operationProperty_1 ?_
    refine jj_getr F g269 (by assumption) (by rfl) dX8_operationProperty_4 ?_
    refine jj_iload_n F dX8_operationProperty_7 rfl ?_
    refine jj_aald F (by assumption) rfl (by omega) dX8_operationProperty_8 ?_
    refine jj_astore_n F dX8_operationProperty_9 (by rw [hnl]; decide) ?_
    dsimp only [lq_st, lq_clr, lq_no]
    refine jj_iload_n F dX8_operationProperty_10 rfl ?_
    refine jj_tableIn F (off := 58) (tgt := 69) dX8_operationProperty_11 (by decide) (by decide) (by decide) (by decide) ?_
    refine jj_aload_n F dX8_operationProperty_69 rfl ?_
    refine jj_geti F g309 (by assumption) (by rfl) dX8_operationProperty_70 ?_
    refine ret _ _ _ _ dX8_operationProperty_73 (by first | rfl | exact nar_z (by first | exact Or.inl rfl | exact Or.inr rfl | exact b2i_01 _ | assumption)) ?_
    exact ⟨hop k hk 1 (by omega), hB⟩
  · refine jj_aload_n F dX8_operationProperty_0 rfl ?_
    refine jj_getr F g19 (by assumption) (by rfl) dX8_operationProperty_1 ?_
    refine jj_getr F g269 (by assumption) (by rfl) dX8_operationProperty_4 ?_
    refine jj_iload_n F dX8_operationProperty_7 rfl ?_
    refine jj_aald F (by assumption) rfl (by omega) dX8_operationProperty_8 ?_
    refine jj_astore_n F dX8_operationProperty_9 (by rw [hnl]; decide) ?_
    dsimp only [lq_st, lq_clr, lq_no]
    refine jj_iload_n F dX8_operationProperty_10 rfl ?_
    refine jj_tableIn F (off := 63) (tgt := 74) dX8_operationProperty_11 (by decide) (by decide) (by decide) (by decide) ?_
    refine jj_aload_n F dX8_operationProperty_74 rfl ?_
    refine jj_geti F g341 (by assumption) (by rfl) dX8_operationProperty_75 ?_
    refine ret _ _ _ _ dX8_operationProperty_78 (by first | rfl | exact nar_z (by first | exact Or.inl rfl | exact Or.inr rfl | exact b2i_01 _ | assumption)) ?_
    exact ⟨hop k hk 2 (by omega), hB⟩
  · refine jj_aload_n F dX8_operationProperty_0 rfl ?_
    refine jj_getr F g19 (by assumption) (by rfl) dX8_operationProperty_1 ?_
    refine jj_getr F g269 (by assumption) (by rfl) dX8_operationProperty_4 ?_
    refine jj_iload_n F dX8_operationProperty_7 rfl ?_
    refine jj_aald F (by assumption) rfl (by omega) dX8_operationProperty_8 ?_
    refine jj_astore_n F dX8_operationProperty_9 (by rw [hnl]; decide) ?_
    dsimp only [lq_st, lq_clr, lq_no]
    refine jj_iload_n F dX8_operationProperty_10 rfl ?_
    refine jj_tableIn F (off := 68) (tgt := 79) dX8_operationProperty_11 (by decide) (by decide) (by decide) (by decide) ?_
    refine jj_aload_n F dX8_operationProperty_79 rfl ?_
    refine jj_geti F g128 (by assumption) (by rfl) dX8_operationProperty_80 ?_
    refine ret _ _ _ _ dX8_operationProperty_83 (by first | rfl | exact nar_z (by first | exact Or.inl rfl | exact Or.inr rfl | exact b2i_01 _ | assumption)) ?_
    exact ⟨hop k hk 3 (by omega), hB⟩
  · refine jj_aload_n F dX8_operationProperty_0 rfl ?_
    refine jj_getr F g19 (by assumption) (by rfl) dX8_operationProperty_1 ?_
    refine jj_getr F g269 (by assumption) (by rfl) dX8_operationProperty_4 ?_
    refine jj_iload_n F dX8_operationProperty_7 rfl ?_
    refine jj_aald F (by assumption) rfl (by omega) dX8_operationProperty_8 ?_
    refine jj_astore_n F dX8_operationProperty_9 (by rw [hnl]; decide) ?_
    dsimp only [lq_st, lq_clr, lq_no]
    refine jj_iload_n F dX8_operationProperty_10 rfl ?_
    refine jj_tableIn F (off := 73) (tgt := 84) dX8_operationProperty_11 (by decide) (by decide) (by decide) (by decide) ?_
    refine jj_aload_n F dX8_operationProperty_84 rfl ?_
    refine jj_geti F g344 (by assumption) (by rfl) dX8_operationProperty_85 ?_
    refine ret _ _ _ _ dX8_operationProperty_88 (by first | rfl | exact nar_z (by first | exact Or.inl rfl | exact Or.inr rfl | exact b2i_01 _ | assumption)) ?_
    exact ⟨hop k hk 5 (by omega), hB⟩
  · refine jj_aload_n F dX8_operationProperty_0 rfl ?_
    refine jj_getr F g19 (by assumption) (by rfl) dX8_operationProperty_1 ?_
    refine jj_getr F g269 (by assumption) (by rfl) dX8_operationProperty_4 ?_
    refine jj_iload_n F dX8_operationProperty_7 rfl ?_
    refine jj_aald F (by assumption) rfl (by omega) dX8_operationProperty_8 ?_
    refine jj_astore_n F dX8_operationProperty_9 (by rw [hnl]; decide) ?_
    dsimp only [lq_st, lq_clr, lq_no]
    refine jj_iload_n F dX8_operationProperty_10 rfl ?_
    refine jj_tableIn F (off := 78) (tgt := 89) dX8_operationProperty_11 (by decide) (by decide) (by decide) (by decide) ?_
    refine jj_aload_n F dX8_operationProperty_89 rfl ?_
    refine jj_geti F g347 (by assumption) (by rfl) dX8_operationProperty_90 ?_
    refine jj_if_eq F (tgt := 100) dX8_operationProperty_93 (by decide) (fun h93 => ?_) (fun h93 => ?_)
    · refine jj_iconst F (v := nI 0) dX8_operationProperty_100 (by decide) ?_
      refine ret _ _ _ _ dX8_operationProperty_101 (by first | rfl | exact nar_z (by first | exact Or.inl rfl | exact Or.inr rfl | exact b2i_01 _ | assumption)) ?_
      refine ⟨?_, hB⟩
      rw [hac k hk] at h93
      show _ = b2i (a_ac a k)
      first
      | (rw [b2i_0] at h93; rw [h93]; rfl)
      | (rw [b2i_n0] at h93; rw [h93]; rfl)
    · refine jj_iconst F (v := nI 1) dX8_operationProperty_96 (by decide) ?_
      refine jj_goto F (tgt := 101) dX8_operationProperty_97 (by decide) ?_
      refine ret _ _ _ _ dX8_operationProperty_101 (by first | rfl | exact nar_z (by first | exact Or.inl rfl | exact Or.inr rfl | exact b2i_01 _ | assumption)) ?_
      refine ⟨?_, hB⟩
      rw [hac k hk] at h93
      show _ = b2i (a_ac a k)
      first
      | (rw [b2i_0] at h93; rw [h93]; rfl)
      | (rw [b2i_n0] at h93; rw [h93]; rfl)
  · refine jj_aload_n F dX8_operationProperty_0 rfl ?_
    refine jj_getr F g19 (by assumption) (by rfl) dX8_operationProperty_1 ?_
    refine jj_getr F g269 (by assumption) (by rfl) dX8_operationProperty_4 ?_
    refine jj_iload_n F dX8_operationProperty_7 rfl ?_
    refine jj_aald F (by assumption) rfl (by omega) dX8_operationProperty_8 ?_
    refine jj_astore_n F dX8_operationProperty_9 (by rw [hnl]; decide) ?_
    dsimp only [lq_st, lq_clr, lq_no]
    refine jj_iload_n F dX8_operationProperty_10 rfl ?_
    refine jj_tableIn F (off := 91) (tgt := 102) dX8_operationProperty_11 (by decide) (by decide) (by decide) (by decide) ?_
    refine jj_aload_n F dX8_operationProperty_102 rfl ?_
    refine jj_getr F g140 (by assumption) (by rfl) dX8_operationProperty_103 ?_
    refine jj_callVi (na := 0) F (c_X0_size csk hCk) (gl_V mk_X8_143 vw_X0_size) rfl rfl rfl (by decide +kernel) ⟨Nat.le_of_ble_eq_true rfl, Nat.le_of_ble_eq_true rfl⟩ (by assumption) rfl rfl rfl (Nat.le_of_ble_eq_true rfl) ⟨Nat.le_of_ble_eq_true rfl, Nat.le_of_ble_eq_true rfl⟩ dX8_operationProperty_106 (fun r106 M106 hp106 => ?_)
    obtain ⟨rfl, rfl⟩ := symm2 hp106
    refine ret _ _ _ _ dX8_operationProperty_109 (by first | rfl | exact nar_z (by first | exact Or.inl rfl | exact Or.inr rfl | exact b2i_01 _ | assumption)) ?_
    exact ⟨rfl, hB⟩
  · refine jj_aload_n F dX8_operationProperty_0 rfl ?_
    refine jj_getr F g19 (by assumption) (by rfl) dX8_operationProperty_1 ?_
    refine jj_getr F g269 (by assumption) (by rfl) dX8_operationProperty_4 ?_
    refine jj_iload_n F dX8_operationProperty_7 rfl ?_
    refine jj_aald F (by assumption) rfl (by omega) dX8_operationProperty_8 ?_
    refine jj_astore_n F dX8_operationProperty_9 (by rw [hnl]; decide) ?_
    dsimp only [lq_st, lq_clr, lq_no]
    refine jj_iload_n F dX8_operationProperty_10 rfl ?_
    refine jj_tableIn F (off := 99) (tgt := 110) dX8_operationProperty_11 (by decide) (by decide) (by decide) (by decide) ?_
    refine jj_aload_n F dX8_operationProperty_110 rfl ?_
    refine jj_getr F g39 (by assumption) (by rfl) dX8_operationProperty_111 ?_
    refine jj_getr F g350 (by assumption) (by rfl) dX8_operationProperty_114 ?_
    refine jj_iload_n F dX8_operationProperty_117 rfl ?_
    refine jj_aald F (by assumption) rfl (by omega) dX8_operationProperty_118 ?_
    refine jj_callVi (na := 0) F (c_X0_size csl hLk) (gl_V mk_X8_143 vw_X0_size) rfl rfl rfl (by decide +kernel) ⟨Nat.le_of_ble_eq_true rfl, Nat.le_of_ble_eq_true rfl⟩ (by assumption) rfl rfl rfl (Nat.le_of_ble_eq_true rfl) ⟨Nat.le_of_ble_eq_true rfl, Nat.le_of_ble_eq_true rfl⟩ dX8_operationProperty_119 (fun r119 M119 hp119 => ?_)
    obtain ⟨rfl, rfl⟩ := symm2 hp119
    refine ret _ _ _ _ dX8_operationProperty_122 (by first | rfl | exact nar_z (by first | exact Or.inl rfl | exact Or.inr rfl | exact b2i_01 _ | assumption)) ?_
    exact ⟨rfl, hB⟩
  · refine jj_aload_n F dX8_operationProperty_0 rfl ?_
    refine jj_getr F g19 (by assumption) (by rfl) dX8_operationProperty_1 ?_
    refine jj_getr F g269 (by assumption) (by rfl) dX8_operationProperty_4 ?_
    refine jj_iload_n F dX8_operationProperty_7 rfl ?_
    refine jj_aald F (by assumption) rfl (by omega) dX8_operationProperty_8 ?_
    refine jj_astore_n F dX8_operationProperty_9 (by rw [hnl]; decide) ?_
    dsimp only [lq_st, lq_clr, lq_no]
    refine jj_iload_n F dX8_operationProperty_10 rfl ?_
    refine jj_tableIn F (off := 112) (tgt := 123) dX8_operationProperty_11 (by decide) (by decide) (by decide) (by decide) ?_
    refine jj_aload_n F dX8_operationProperty_123 rfl ?_
    refine jj_getr F g49 (by assumption) (by rfl) dX8_operationProperty_124 ?_
    refine jj_aload_n F dX8_operationProperty_127 rfl ?_
    refine jj_getr F g39 (by assumption) (by rfl) dX8_operationProperty_128 ?_
    refine jj_getr F g350 (by assumption) (by rfl) dX8_operationProperty_131 ?_
    refine jj_iload_n F dX8_operationProperty_134 rfl ?_
    refine jj_aald F (by assumption) rfl (by omega) dX8_operationProperty_135 ?_
    refine jj_iconst F (v := nI 1) dX8_operationProperty_136 (by decide) ?_
    have hok2 : rok (lsA a k, Q, q) := ⟨hok.1, hok.2⟩
    refine jj_callVi (na := 2) F (c_X6_parts (S := lsA a k) csl (by omega) hLk hQ hq hok2) (gl_V mk_X8_334 vw_X6_parts) rfl rfl rfl (by decide +kernel) ⟨Nat.le_of_ble_eq_true rfl, Nat.le_of_ble_eq_true rfl⟩ (by assumption) rfl rfl rfl (Nat.le_of_ble_eq_true rfl) ⟨Nat.le_of_ble_eq_true rfl, Nat.le_of_ble_eq_true rfl⟩ dX8_operationProperty_137 (fun r137 M137 hp137 => ?_)
    obtain ⟨rfl, rfl⟩ := symm2 hp137
    refine ret _ _ _ _ dX8_operationProperty_140 (by first | rfl | exact nar_z (by first | exact Or.inl rfl | exact Or.inr rfl | exact b2i_01 _ | assumption)) ?_
    refine ⟨?_, RelB_reg hB (rok_ptA hok2 256 (Nat.le_refl _))⟩
    rw [pt_spec]
    rfl
  · refine jj_aload_n F dX8_operationProperty_0 rfl ?_
    refine jj_getr F g19 (by assumption) (by rfl) dX8_operationProperty_1 ?_
    refine jj_getr F g269 (by assumption) (by rfl) dX8_operationProperty_4 ?_
    refine jj_iload_n F dX8_operationProperty_7 rfl ?_
    refine jj_aald F (by assumption) rfl (by omega) dX8_operationProperty_8 ?_
    refine jj_astore_n F dX8_operationProperty_9 (by rw [hnl]; decide) ?_
    dsimp only [lq_st, lq_clr, lq_no]
    refine jj_iload_n F dX8_operationProperty_10 rfl ?_
    refine jj_tableIn F (off := 130) (tgt := 141) dX8_operationProperty_11 (by decide) (by decide) (by decide) (by decide) ?_
    refine jj_aload_n F dX8_operationProperty_141 rfl ?_
    refine jj_getr F g39 (by assumption) (by rfl) dX8_operationProperty_142 ?_
    refine jj_getr F g353 (by assumption) (by rfl) dX8_operationProperty_145 ?_
    refine jj_iload_n F dX8_operationProperty_148 rfl ?_
    refine jj_iald F (by assumption) rfl (by omega) dX8_operationProperty_149 ?_
    refine ret _ _ _ _ dX8_operationProperty_150 (by first | rfl | exact nar_z (by first | exact Or.inl rfl | exact Or.inr rfl | exact b2i_01 _ | assumption)) ?_
    refine ⟨?_, hB⟩
    show M.1 208 k = _
    rw [s4]
    rfl
  · refine jj_aload_n F dX8_operationProperty_0 rfl ?_
    refine jj_getr F g19 (by assumption) (by rfl) dX8_operationProperty_1 ?_
    refine jj_getr F g269 (by assumption) (by rfl) dX8_operationProperty_4 ?_
    refine jj_iload_n F dX8_operationProperty_7 rfl ?_
    refine jj_aald F (by assumption) rfl (by omega) dX8_operationProperty_8 ?_
    refine jj_astore_n F dX8_operationProperty_9 (by rw [hnl]; decide) ?_
    dsimp only [lq_st, lq_clr, lq_no]
    refine jj_iload_n F dX8_operationProperty_10 rfl ?_
    refine jj_tableOut F (tgt := 151) dX8_operationProperty_11 (by decide) (by decide) ?_
    refine jj_aload_n F dX8_operationProperty_151 rfl ?_
    refine jj_aload_n F dX8_operationProperty_152 rfl ?_
    refine jj_geti F g60 (by assumption) (by rfl) dX8_operationProperty_153 ?_
    rw [htk]
    refine jj_callVi (na := 1) F (c_X4_strengthAt (by omega)) (gl_V mk_X8_273 vw_X4_strengthAt) rfl rfl rfl (by decide +kernel) ⟨Nat.le_of_ble_eq_true rfl, Nat.le_of_ble_eq_true rfl⟩ (by assumption) rfl rfl rfl (Nat.le_of_ble_eq_true rfl) ⟨Nat.le_of_ble_eq_true rfl, Nat.le_of_ble_eq_true rfl⟩ dX8_operationProperty_156 (fun r156 M156 hp156 => ?_)
    obtain ⟨rfl, rfl⟩ := symm2 hp156
    refine ret _ _ _ _ dX8_operationProperty_159 (by first | rfl | exact nar_z (by first | exact Or.inl rfl | exact Or.inr rfl | exact b2i_01 _ | assumption)) ?_
    refine ⟨?_, hB⟩
    rw [hop k hk 0 (by omega), hop k hk 4 (by omega), hop k hk 5 (by omega)]
    rfl
theorem co_eq {M : Mm} {a : Ab} {u : Int32} (hop : ∀ i, i < a_n a → ∀ b, b < 6 → M.1 (7 + 3 * i) b = a_op a i b) (s4 : M.1 208 = OF (tpA a) 256) : ∀ {i : Nat}, i ≤ a_n a → coF M u i = coA a u i
  | 0, _ => rfl
  | i + 1, hi => by
    unfold coF coA
    rw [co_eq hop s4 (show i ≤ a_n a by omega), hop i (by omega) 1 (by omega), s4]
set_option maxRecDepth 100000 in
set_option maxHeartbeats 1000000 in
theorem c_X8_userProperty {l : Launch} {E : Ee} {M : Mm} {a : Ab} {W u w : Nat} (hB : RelB M a W) (hu : u < 5) (hw : w < 5) (hWW : W < 1000) : CtI l E yX8_userProperty (.code yX8_userProperty cX8_userProperty 3 (some .int) :: gl) ({ frames := 1, cells := 0, slots := 0, locals := 24 } : Room) M [.ref (E.2.2 0), .int (nI u), .int (nI w)] 0 0 (fun r M2 => r = usA a u w ∧ RelB M2 a W) := by
  refine ctI_of (L0 := [some (.ref (E.2.2 0)), some (.int (nI u)), some (.int (nI w))]) (by decide) rfl (Nat.le_of_ble_eq_true rfl) rfl ?_
  intro Z hl hE hnl F ret
  subst hE
  have in_X8 : ∀ w ∈ u_ws RX8 TX8 9, w ∈ (.code yX8_userProperty cX8_userProperty 3 (some .int) :: gl) := fun w h => List.mem_cons_of_mem _ (lay_X8 w h)
  have g19 : FG Z 19 8 1 := fg_mk F (C := RX8) (T := TX8) (N := 9) in_X8 rfl (by decide) rfl (List.mem_cons_of_mem _ fk_X8_19)
  have g26 : FG Z 26 8 2 := fg_mk F (C := RX8) (T := TX8) (N := 9) in_X8 rfl (by decide) rfl (List.mem_cons_of_mem _ fk_X8_26)
  have g60 : FG Z 60 8 8 := fg_mk F (C := RX8) (T := TX8) (N := 9) in_X8 rfl (by decide) rfl (List.mem_cons_of_mem _ fk_X8_60)
  have kb := kd_B
  have kl := kd_Log
  have ke := kd_ents
  have ks := kd_sc0 sc204
  have ks1 := kd_sc1 sc204
  have ks2 := kd_sc2 sc204
  have ks3 := kd_sc3 sc204
  have ks4 := kd_sc4 sc204
  have kt := kd_sc0 sc329
  have kt3 := kd_sc3 sc329
  have kp := kd_PT
  have kL := kd_Ls
  have cs8 := cs_scr
  have k58 := kd_458
  have k59 := kd_459
  have kr := kd_Reg
  have km := kd_marks
  obtain ⟨hO, hL, hU, hK, hS, hT, hR0⟩ := id hB
  obtain ⟨h60, ht, htk, hn, hop, hac, hopk, Cb, hC, hCb⟩ := id hO
  obtain ⟨own, en, fa, la, l1, hA, hp⟩ := id hL
  obtain ⟨s1, s2, s3, s4⟩ := id hS
  obtain ⟨S0, hS0⟩ := id hR0.1
  obtain ⟨R, Q, q, hR, hQ, hq, hok⟩ := id hR0.2
  obtain ⟨ub, uw, u1, u2, u3, u4⟩ := id hU
  rcases (show w = 0 ∨ w = 1 ∨ w = 2 ∨ w = 3 ∨ w = 4 by omega) with rfl | rfl | rfl | rfl | rfl
  · refine jj_iload_n F dX8_userProperty_0 rfl ?_
    refine jj_tableIn F (off := 31) (tgt := 32) dX8_userProperty_1 (by decide) (by decide) (by decide) (by decide) ?_
    refine jj_aload_n F dX8_userProperty_32 rfl ?_
    refine jj_getr F g19 (by assumption) (by rfl) dX8_userProperty_33 ?_
    refine jj_iload_n F dX8_userProperty_36 rfl ?_
    refine jj_callVi (na := 1) F (c_X2_operationsOf hn (by omega)) (gl_V mk_X8_356 vw_X2_operationsOf) rfl rfl rfl (by decide +kernel) ⟨Nat.le_of_ble_eq_true rfl, Nat.le_of_ble_eq_true rfl⟩ (by assumption) rfl rfl rfl (Nat.le_of_ble_eq_true rfl) ⟨Nat.le_of_ble_eq_true rfl, Nat.le_of_ble_eq_true rfl⟩ dX8_userProperty_37 (fun r37 M37 hp37 => ?_)
    obtain ⟨rfl, rfl⟩ := symm2 hp37
    refine ret _ _ _ _ dX8_userProperty_40 (by first | rfl | exact nar_z (by first | exact Or.inl rfl | exact Or.inr rfl | exact b2i_01 _ | assumption)) ?_
    refine ⟨?_, hB⟩
    rw [fb_ct_cong (fun j hj => by rw [hop j hj 1 (by omega)])]
    rfl
  · refine jj_iload_n F dX8_userProperty_0 rfl ?_
    refine jj_tableIn F (off := 40) (tgt := 41) dX8_userProperty_1 (by decide) (by decide) (by decide) (by decide) ?_
    refine jj_aload_n F dX8_userProperty_41 rfl ?_
    refine jj_getr F g19 (by assumption) (by rfl) dX8_userProperty_42 ?_
    refine jj_iload_n F dX8_userProperty_45 rfl ?_
    refine jj_callVi (na := 1) F (c_X2_activeOf hn (by omega)) (gl_V mk_X8_359 vw_X2_activeOf) rfl rfl rfl (by decide +kernel) ⟨Nat.le_of_ble_eq_true rfl, Nat.le_of_ble_eq_true rfl⟩ (by assumption) rfl rfl rfl (Nat.le_of_ble_eq_true rfl) ⟨Nat.le_of_ble_eq_true rfl, Nat.le_of_ble_eq_true rfl⟩ dX8_userProperty_46 (fun r46 M46 hp46 => ?_)
    obtain ⟨rfl, rfl⟩ := symm2 hp46
    refine ret _ _ _ _ dX8_userProperty_49 (by first | rfl | exact nar_z (by first | exact Or.inl rfl | exact Or.inr rfl | exact b2i_01 _ | assumption)) ?_
    refine ⟨?_, hB⟩
    rw [fb_ct_cong (fun j hj => by rw [hop j hj 1 (by omega), hac j hj, b2i_dec])]
    rfl
  · refine jj_iload_n F dX8_userProperty_0 rfl ?_
    refine jj_tableIn F (off := 49) (tgt := 50) dX8_userProperty_1 (by decide) (by decide) (by decide) (by decide) ?_
    refine jj_aload_n F dX8_userProperty_50 rfl ?_
    refine jj_getr F g19 (by assumption) (by rfl) dX8_userProperty_51 ?_
    refine jj_iload_n F dX8_userProperty_54 rfl ?_
    refine jj_callVi (na := 1) F (c_X2_redoableOf hn (by omega)) (gl_V mk_X8_362 vw_X2_redoableOf) rfl rfl rfl (by decide +kernel) ⟨Nat.le_of_ble_eq_true rfl, Nat.le_of_ble_eq_true rfl⟩ (by assumption) rfl rfl rfl (Nat.le_of_ble_eq_true rfl) ⟨Nat.le_of_ble_eq_true rfl, Nat.le_of_ble_eq_true rfl⟩ dX8_userProperty_55 (fun r55 M55 hp55 => ?_)
    obtain ⟨rfl, rfl⟩ := symm2 hp55
    refine ret _ _ _ _ dX8_userProperty_58 (by first | rfl | exact nar_z (by first | exact Or.inl rfl | exact Or.inr rfl | exact b2i_01 _ | assumption)) ?_
    refine ⟨?_, hB⟩
    rw [fb_ct_cong (q := fun j => decide (a_op a j 1 = nI u) && decide (0 < a_un a j)) (fun j hj => ?_)]
    · rfl
    · rw [hop j hj 1 (by omega), (u3 j hj).1]
      congr 1
      rw [Bool.eq_iff_iff]
      simp only [decide_eq_true_eq, Bool.not_eq_true', decide_eq_false_iff_not]
      rw [← (u3 j hj).2.2]
      have hub := (u3 j hj).2.1
      constructor
      · intro h
        rcases Nat.eq_zero_or_pos (ub j) with q9 | q9
        · rw [q9] at h; exact absurd (by decide) h
        · exact q9
      · intro h
        exact nI_nle h (by omega)
  · refine jj_iload_n F dX8_userProperty_0 rfl ?_
    refine jj_tableIn F (off := 58) (tgt := 59) dX8_userProperty_1 (by decide) (by decide) (by decide) (by decide) ?_
    refine jj_aload_n F dX8_userProperty_59 rfl ?_
    refine jj_iload_n F dX8_userProperty_60 rfl ?_
    refine jj_callVi (na := 1) F (c_X8_cellsOf hn h60) (gl_V mk_X8_365 vw_X8_cellsOf) rfl rfl rfl (by decide +kernel) ⟨Nat.le_of_ble_eq_true rfl, Nat.le_of_ble_eq_true rfl⟩ (by assumption) rfl rfl rfl (Nat.le_of_ble_eq_true rfl) ⟨Nat.le_of_ble_eq_true rfl, Nat.le_of_ble_eq_true rfl⟩ dX8_userProperty_61 (fun r61 M61 hp61 => ?_)
    obtain ⟨rfl, rfl⟩ := symm2 hp61
    refine ret _ _ _ _ dX8_userProperty_64 (by first | rfl | exact nar_z (by first | exact Or.inl rfl | exact Or.inr rfl | exact b2i_01 _ | assumption)) ?_
    refine ⟨?_, hB⟩
    show coF M (nI u) (a_n a) = coA a (nI u) (a_n a)
    exact co_eq hop s4 (Nat.le_refl _)
  · refine jj_iload_n F dX8_userProperty_0 rfl ?_
    refine jj_tableOut F (tgt := 65) dX8_userProperty_1 (by decide) (by decide) ?_
    refine jj_aload_n F dX8_userProperty_65 rfl ?_
    refine jj_getr F g26 (by assumption) (by rfl) dX8_userProperty_66 ?_
    refine jj_iload_n F dX8_userProperty_69 rfl ?_
    refine jj_aload_n F dX8_userProperty_70 rfl ?_
    refine jj_geti F g60 (by assumption) (by rfl) dX8_userProperty_71 ?_
    rw [htk]
    refine jj_callVi (na := 2) F c_X1_inForceOf (gl_V mk_X8_368 vw_X1_inForceOf) rfl rfl rfl (by decide +kernel) ⟨Nat.le_of_ble_eq_true rfl, Nat.le_of_ble_eq_true rfl⟩ (by assumption) rfl rfl rfl (Nat.le_of_ble_eq_true rfl) ⟨Nat.le_of_ble_eq_true rfl, Nat.le_of_ble_eq_true rfl⟩ dX8_userProperty_74 (fun r74 M74 hp74 => ?_)
    obtain ⟨rfl, rfl⟩ := symm2 hp74
    refine ret _ _ _ _ dX8_userProperty_77 (by first | rfl | exact nar_z (by first | exact Or.inl rfl | exact Or.inr rfl | exact b2i_01 _ | assumption)) ?_
    refine ⟨?_, hB⟩
    rw [bp5o (by omega) (by omega) l1 hp]
    rfl
