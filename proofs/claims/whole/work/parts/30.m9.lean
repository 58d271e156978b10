/-- what a call of the reference leaves alone, and what it throws -/
def Pub (M M2 : Mm) (e : Nat) : Prop := (∀ x, x < 478 → M2.1 x = M.1 x) ∧ M2.2 504 = M.2 504 ∧ M2.1 478 0 = nI e
def FrD (M M2 : Mm) : Prop := (∀ x, x ≤ 478 → M2.1 x = M.1 x) ∧ M2.2 504 = M.2 504
theorem FrD_of {M M2 : Mm} (h : Fr M M2) : FrD M M2 := ⟨h.1, h.2.2⟩
theorem FrD_tr {M M2 M3 : Mm} (h : FrD M M2) (h2 : FrD M2 M3) : FrD M M3 := ⟨fun x hx => (h2.1 x hx).trans (h.1 x hx), h2.2.trans h.2⟩
theorem FrD_rf (M : Mm) : FrD M M := ⟨fun _ _ => rfl, rfl⟩
abbrev thr (M : Mm) (x : Int32) : Mm := wA M 478 (upd (M.1 478) 0 x)
theorem thr_0 (M : Mm) (x : Int32) : (thr M x).1 478 0 = x := by rw [wA_1s]; simp [upd]
theorem thr_b (M : Mm) (x : Int32) {b : Nat} (h : b ≠ 0) : (thr M x).1 478 b = M.1 478 b := by rw [wA_1s]; simp [upd, h]
theorem thr_n (M : Mm) (x : Int32) {k : Nat} (h : k ≠ 478) : (thr M x).1 k = M.1 k := wA_n h
theorem RelM_thr {M : Mm} {a : Ab} {W : Nat} {x : Int32} (h : RelM M a W) : RelM (thr M x) a W := RelM_ag h (fun y h1 h2 => wA_n (by omega)) (fun b hb => thr_b _ _ (by omega)) rfl rfl h.2.2.2.2
theorem Pub_thr {M M2 : Mm} {e : Nat} (h : FrD (thr M (nI e)) M2) : Pub M M2 e := ⟨fun x hx => by rw [h.1 x (by omega)]; exact wA_n (by omega), h.2, by rw [h.1 478 (by omega)]; exact thr_0 _ _⟩
theorem Pub_0 {M : Mm} {e : Nat} : Pub M (thr M (nI e)) e := Pub_thr (FrD_rf _)
theorem RelM_h {M : Mm} {a : Ab} {W : Nat} {g : Nat → Int64} (h : RelM M a W) : RelM (wL M 478 g) a W := RelM_ag h (fun _ _ _ => rfl) (fun _ _ => rfl) (wL_n (by omega)) (wL_n (by omega)) (by rw [wL_n (by omega)]; exact h.2.2.2.2)
theorem Ld_h {M : Mm} {a : Ab} {W : Nat} {g : Nat → Int64} (h : Ld M a W) : Ld (wL M 478 g) a W := Ld_ag h (fun _ _ _ => rfl) (fun _ _ => rfl) (wL_n (by omega)) (wL_n (by omega)) (wL_n (by omega)) rfl
theorem FrD_h {M : Mm} {g : Nat → Int64} : FrD M (wL M 478 g) := ⟨fun _ _ => rfl, wL_n (by omega)⟩
def P1 (M0 M : Mm) (a : Ab) (W : Nat) (h : Int64) : Prop := Ld M a W ∧ FrD M0 M ∧ M.2 478 32 = h
def P2 (M0 M : Mm) (a : Ab) (W : Nat) (h : Int64) : Prop := RelM M a W ∧ FrD M0 M ∧ M.2 478 32 = h
theorem P1_mix {M0 M M2 : Mm} {a : Ab} {W : Nat} {h : Int64} {v : Int32} (p : P1 M0 M a W h) (hl : Ld M2 a W) (hf : Fr M M2) : P1 M0 (wL M2 478 (vp_updL (M2.2 478) 32 (31 * M2.2 478 32 + v.toInt64))) a W (mx h v) := ⟨Ld_h hl, FrD_tr p.2.1 (FrD_tr (FrD_of hf) FrD_h), by
  rw [wL_s]
  simp only [vp_updL, if_true, mx]
  rw [hf.2.1, p.2.2]⟩
theorem P2_mix {M0 M M2 : Mm} {a : Ab} {W : Nat} {h : Int64} {v : Int32} (p : P2 M0 M a W h) (hl : RelM M2 a W) (hf : Fr M M2) : P2 M0 (wL M2 478 (vp_updL (M2.2 478) 32 (31 * M2.2 478 32 + v.toInt64))) a W (mx h v) := ⟨RelM_h hl, FrD_tr p.2.1 (FrD_tr (FrD_of hf) FrD_h), by
  rw [wL_s]
  simp only [vp_updL, if_true, mx]
  rw [hf.2.1, p.2.2]⟩
theorem fo_add (f : Nat → Int32) (h : Int64) (n : Nat) : ∀ j, fo f h (n + j) = fo (fun i => f (n + i)) (fo f h n) j
  | 0 => rfl
  | j + 1 => by
    show mx (fo f h (n + j)) (f (n + j)) = mx (fo (fun i => f (n + i)) (fo f h n) j) (f (n + j))
    rw [fo_add f h n j]
theorem fo_cong {f g : Nat → Int32} {h : Int64} : ∀ {n : Nat}, (∀ i, i < n → f i = g i) → fo f h n = fo g h n
  | 0, _ => rfl
  | n + 1, q => by
    show mx (fo f h n) (f n) = mx (fo g h n) (g n)
    rw [fo_cong (fun i hi => q i (by omega)), q n (by omega)]
theorem fo_flat {F : Nat → Nat → Int32} {m : Nat} (hm : 0 < m) (h : Int64) : ∀ n, fo (fun k => F (k / m) (k % m)) h (m * n) = fo2 F m h n
  | 0 => rfl
  | n + 1 => by
    rw [Nat.mul_succ, fo_add, fo_flat hm h n]
    show _ = fo (F n) (fo2 F m h n) m
    refine fo_cong (fun i hi => ?_)
    rw [Nat.mul_add_div hm, Nat.div_eq_of_lt hi, Nat.mul_add_mod, Nat.mod_eq_of_lt hi, Nat.add_zero]
set_option maxRecDepth 100000 in
set_option maxHeartbeats 1000000 in
theorem c_X9_digest {l : Launch} {E : Ee} {M : Mm} {a : Ab} {W : Nat} (hM : RelM M a W) (hWW : W < 1000) : CtL l E yX9_digest (.code yX9_digest cX9_digest 2 (some .long) :: gl) ({ frames := 6, cells := 0, slots := 0, locals := 140 } : Room) M [.ref (E.2.2 478)] 0 0 (fun r M2 => r = dg6 a (a_ln a) ∧ RelM M2 a W ∧ Pub M M2 0) := by
  refine ctL_of (L0 := [some (.ref (E.2.2 478)), none]) (by decide) rfl (Nat.le_of_ble_eq_true rfl) rfl ?_
  intro Z hl hE hnl F ret
  subst hE
  have in_X9 : ∀ w ∈ u_ws RX9 TX9 33, w ∈ (.code yX9_digest cX9_digest 2 (some .long) :: gl) := fun w h => List.mem_cons_of_mem _ (lay_X9 w h)
  have g60 : FG Z 60 9 21 := fg_mk F (C := RX9) (T := TX9) (N := 33) in_X9 rfl (by decide) rfl (List.mem_cons_of_mem _ fk_X9_60)
  have g63 : FG Z 63 9 23 := fg_mk F (C := RX9) (T := TX9) (N := 33) in_X9 rfl (by decide) rfl (List.mem_cons_of_mem _ fk_X9_63)
  have g95 : FG Z 95 9 2 := fg_mk F (C := RX9) (T := TX9) (N := 33) in_X9 rfl (by decide) rfl (List.mem_cons_of_mem _ fk_X9_95)
  have g146 : FG Z 146 9 22 := fg_mk F (C := RX9) (T := TX9) (N := 33) in_X9 rfl (by decide) rfl (List.mem_cons_of_mem _ fk_X9_146)
  have g300 : FG Z 300 9 32 := fg_mk F (C := RX9) (T := TX9) (N := 33) in_X9 rfl (by decide) rfl (List.mem_cons_of_mem _ fk_X9_300)
  have p87 : FP Z 87 9 0 .int := fp_mk F (C := RX9) (T := TX9) (N := 33) in_X9 tyX9_ok nmX9 rfl (by decide) rfl (List.mem_cons_of_mem _ fk_X9_87) rfl (by decide +kernel)
  have p300 : FP Z 300 9 32 .long := fp_mk F (C := RX9) (T := TX9) (N := 33) in_X9 tyX9_ok nmX9 rfl (by decide) rfl (List.mem_cons_of_mem _ fk_X9_300) rfl (by decide +kernel)
  obtain ⟨⟨h60, ht, htk, hn, hop, hac, hun, hopk, ⟨u0, hu1, hu2, hu3⟩, C, hC, hCa⟩, ⟨hlk, hll, hlz⟩, hK, ⟨hln, hl40, htx⟩, L0, hL0⟩ := id hM
  have kM := kd_M
  have k479 := kd_479
  have k480 := kd_480
  have k481 := kd_481
  have k482 := kd_482
  have k483 := kd_483
  have k484 := kd_484
  have k485 := kd_485
  have k486 := kd_486
  have k487 := kd_487
  have k488 := kd_488
  have k489 := kd_489
  have k490 := kd_490
  have k491 := kd_491
  have k492 := kd_492
  have k493 := kd_493
  have k494 := kd_494
  have k495 := kd_495
  have k496 := kd_496
  have k497 := kd_497
  have k498 := kd_498
  have k499 := kd_499
  have k500 := kd_500
  have k501 := kd_501
  have k502 := kd_502
  have k503 := kd_503
  let M0 : Mm := thr M (nI 0)
  have l6 : ∀ i, i ≤ a_ln a → ∀ M9 : Mm, P2 M0 M9 a W (dg6 a i) → JJ Z (0, 0) M9 174 [some (.ref ((zE Z).2.2 478)), some (.int (nI i))] [] := by
    refine jj_loop (a_ln a) ?_ ?_
    · intro M9 h9
      have hM9 : RelM M9 a W := h9.1
      refine jj_iload_n F dX9_digest_174 rfl ?_
      refine jj_aload_n F dX9_digest_175 rfl ?_
      refine jj_geti F g146 (by assumption) (by rfl) dX9_digest_176 ?_
      rw [hM9.2.2.2.1.1]
      refine jj_icmp_ge F (tgt := 199) dX9_digest_179 (by decide) (fun _ => ?_) (fun h9 => absurd (nI_le (by omega) (by omega)) h9)
      refine jj_aload_n F dX9_digest_199 rfl ?_
      refine jj_getl F g300 (by assumption) (by rfl) dX9_digest_200 ?_
      refine ret _ _ _ _ dX9_digest_203 ?_
      refine ⟨h9.2.2, h9.1, Pub_thr h9.2.1⟩
    · intro i hi ih M9 h9
      have hM9 : RelM M9 a W := h9.1
      refine jj_iload_n F dX9_digest_174 rfl ?_
      refine jj_aload_n F dX9_digest_175 rfl ?_
      refine jj_geti F g146 (by assumption) (by rfl) dX9_digest_176 ?_
      rw [hM9.2.2.2.1.1]
      refine jj_icmp_ge F (tgt := 199) dX9_digest_179 (by decide) (fun h9 => absurd h9 (nI_ge (by omega) (by omega))) (fun _ => ?_)
      refine jj_aload_n F dX9_digest_182 rfl ?_
      refine jj_aload_n F dX9_digest_183 rfl ?_
      refine jj_getr F g63 (by assumption) (by rfl) dX9_digest_184 ?_
      refine jj_iload_n F dX9_digest_187 rfl ?_
      refine jj_iald F (by assumption) rfl (by omega) dX9_digest_188 ?_
      rw [hM9.2.2.2.1.2.2 i hi]
      refine jj_i2l F dX9_digest_189 ?_
      refine jj_callVv (na := 1) F c_X9_mix (gl_V mk_X9_306 vw_X9_mix) rfl rfl rfl (by decide +kernel) ⟨Nat.le_of_ble_eq_true rfl, Nat.le_of_ble_eq_true rfl⟩ kM rfl rfl rfl (Nat.le_of_ble_eq_true rfl) ⟨Nat.le_of_ble_eq_true rfl, Nat.le_of_ble_eq_true rfl⟩ dX9_digest_190 (fun Mx190 hx190 => ?_)
      obtain rfl := hx190.symm
      refine jj_iinc F dX9_digest_193 rfl (by first | exact iinc1 _ | rfl) (by rw [hnl]; decide) ?_
      dsimp only [lq_st, lq_clr, lq_no]
      refine jj_goto F (tgt := 174) dX9_digest_196 (by decide) ?_
      exact ih _ (P2_mix h9 hM9 (Fr_rf _))
  have l5 : ∀ i, i ≤ 6 → ∀ M9 : Mm, P2 M0 M9 a W (dg5 a i) → JJ Z (0, 0) M9 132 [some (.ref ((zE Z).2.2 478)), some (.int (nI i))] [] := by
    refine jj_loop (6) ?_ ?_
    · intro M9 h9
      have hM9 : RelM M9 a W := h9.1
      refine jj_iload_n F dX9_digest_132 rfl ?_
      refine jj_bipush F (v := nI 6) dX9_digest_133 (by decide) ?_
      refine jj_icmp_ge F (tgt := 163) dX9_digest_135 (by decide) (fun _ => ?_) (fun h9 => absurd (nI_le (by omega) (by omega)) h9)
      refine jj_aload_n F dX9_digest_163 rfl ?_
      refine jj_aload_n F dX9_digest_164 rfl ?_
      refine jj_geti F g146 (by assumption) (by rfl) dX9_digest_165 ?_
      rw [hM9.2.2.2.1.1]
      refine jj_i2l F dX9_digest_168 ?_
      refine jj_callVv (na := 1) F c_X9_mix (gl_V mk_X9_306 vw_X9_mix) rfl rfl rfl (by decide +kernel) ⟨Nat.le_of_ble_eq_true rfl, Nat.le_of_ble_eq_true rfl⟩ (by assumption) rfl rfl rfl (Nat.le_of_ble_eq_true rfl) ⟨Nat.le_of_ble_eq_true rfl, Nat.le_of_ble_eq_true rfl⟩ dX9_digest_169 (fun M169 hp169 => ?_)
      obtain rfl := hp169.symm
      refine jj_iconst F (v := nI 0) dX9_digest_172 (by decide) ?_
      refine jj_istore_n F dX9_digest_173 (by rw [hnl]; decide) ?_
      dsimp only [lq_st, lq_clr, lq_no]
      exact l6 0 (by omega) _ (P2_mix h9 hM9 (Fr_rf _))
    · intro i hi ih M9 h9
      have hM9 : RelM M9 a W := h9.1
      refine jj_iload_n F dX9_digest_132 rfl ?_
      refine jj_bipush F (v := nI 6) dX9_digest_133 (by decide) ?_
      refine jj_icmp_ge F (tgt := 163) dX9_digest_135 (by decide) (fun h9 => absurd h9 (nI_ge (by omega) (by omega))) (fun _ => ?_)
      refine jj_aload_n F dX9_digest_138 rfl ?_
      refine jj_getr F g60 (by assumption) (by rfl) dX9_digest_139 ?_
      refine jj_iload_n F dX9_digest_142 rfl ?_
      refine jj_zald F (by assumption) rfl (by omega) dX9_digest_143 ?_
      rw [(hM9.2.2.1 i hi).1]
      refine jj_if_eq F (tgt := 157) dX9_digest_144 (by decide) (fun h144 => ?_) (fun h144 => ?_)
      · refine jj_iinc F dX9_digest_157 rfl (by first | exact iinc1 _ | rfl) (by rw [hnl]; decide) ?_
        dsimp only [lq_st, lq_clr, lq_no]
        refine jj_goto F (tgt := 132) dX9_digest_160 (by decide) ?_
        first
        | (have z := van_f h144; exact ih M9 (by show P2 M0 M9 a W (if (a_mk a i).1 = true then _ else foM a (dg4 a 5) i); rw [if_neg (by rw [z]; decide)]; exact h9))
        | (have z := van_t h144; refine ih _ ?_; show P2 M0 _ a W (if (a_mk a i).1 = true then mx (foM a (dg4 a 5) i) _ else _); rw [if_pos z]; exact P2_mix h9 hp150.2.1 hp150.2.2)
      · refine jj_aload_n F dX9_digest_147 rfl ?_
        refine jj_aload_n F dX9_digest_148 rfl ?_
        refine jj_iload_n F dX9_digest_149 rfl ?_
        refine jj_callVi (na := 1) F (c_X9_differenceNow hM9 hi (van_t h144)) (gl_V mk_X9_253 vw_X9_differenceNow) rfl rfl rfl (by decide +kernel) ⟨Nat.le_of_ble_eq_true rfl, Nat.le_of_ble_eq_true rfl⟩ kM rfl rfl rfl (Nat.le_of_ble_eq_true rfl) ⟨Nat.le_of_ble_eq_true rfl, Nat.le_of_ble_eq_true rfl⟩ dX9_digest_150 (fun r150 M150 hp150 => ?_)
        obtain rfl := hp150.1
        refine jj_i2l F dX9_digest_153 ?_
        refine jj_callVv (na := 1) F c_X9_mix (gl_V mk_X9_306 vw_X9_mix) rfl rfl rfl (by decide +kernel) ⟨Nat.le_of_ble_eq_true rfl, Nat.le_of_ble_eq_true rfl⟩ kM rfl rfl rfl (Nat.le_of_ble_eq_true rfl) ⟨Nat.le_of_ble_eq_true rfl, Nat.le_of_ble_eq_true rfl⟩ dX9_digest_154 (fun Mx154 hx154 => ?_)
        obtain rfl := hx154.symm
        refine jj_iinc F dX9_digest_157 rfl (by first | exact iinc1 _ | rfl) (by rw [hnl]; decide) ?_
        dsimp only [lq_st, lq_clr, lq_no]
        refine jj_goto F (tgt := 132) dX9_digest_160 (by decide) ?_
        first
        | (have z := van_f h144; exact ih M9 (by show P2 M0 M9 a W (if (a_mk a i).1 = true then _ else foM a (dg4 a 5) i); rw [if_neg (by rw [z]; decide)]; exact h9))
        | (have z := van_t h144; refine ih _ ?_; show P2 M0 _ a W (if (a_mk a i).1 = true then mx (foM a (dg4 a 5) i) _ else _); rw [if_pos z]; exact P2_mix h9 hp150.2.1 hp150.2.2)
  have l4 : ∀ i, i ≤ 25 → ∀ M9 : Mm, P1 M0 M9 a W (fo (fun k => usA a (k / 5) (k % 5)) (dg3 a (a_n a)) i) → JJ Z (0, 0) M9 103 [some (.ref ((zE Z).2.2 478)), some (.int (nI i))] [] := by
    refine jj_loop (25) ?_ ?_
    · intro M9 h9
      have hM9 : RelM M9 a W := h9.1.1
      refine jj_iload_n F dX9_digest_103 rfl ?_
      refine jj_bipush F (v := nI 25) dX9_digest_104 (by decide) ?_
      refine jj_icmp_ge F (tgt := 130) dX9_digest_106 (by decide) (fun _ => ?_) (fun h9 => absurd (nI_le (by omega) (by omega)) h9)
      refine jj_iconst F (v := nI 0) dX9_digest_130 (by decide) ?_
      refine jj_istore_n F dX9_digest_131 (by rw [hnl]; decide) ?_
      dsimp only [lq_st, lq_clr, lq_no]
      refine l5 0 (by omega) M9 ⟨hM9, h9.2.1, ?_⟩
      rw [h9.2.2]
      exact fo_flat (by omega) _ 5
    · intro i hi ih M9 h9
      have hM9 : RelM M9 a W := h9.1.1
      refine jj_iload_n F dX9_digest_103 rfl ?_
      refine jj_bipush F (v := nI 25) dX9_digest_104 (by decide) ?_
      refine jj_icmp_ge F (tgt := 130) dX9_digest_106 (by decide) (fun h9 => absurd h9 (nI_ge (by omega) (by omega))) (fun _ => ?_)
      refine jj_aload_n F dX9_digest_109 rfl ?_
      refine jj_aload_n F dX9_digest_110 rfl ?_
      refine jj_iload_n F dX9_digest_111 rfl ?_
      refine jj_iconst F (v := nI 5) dX9_digest_112 (by decide) ?_
      refine jj_idiv F dX9_digest_113 (by first | decide | assumption) ?_
      rw [show nI i / nI 5 = nI (i / 5) from pk_div (by omega) (by omega) (by omega)]
      refine jj_iload_n F dX9_digest_114 rfl ?_
      refine jj_iconst F (v := nI 5) dX9_digest_115 (by decide) ?_
      refine jj_irem F dX9_digest_116 (by first | decide | assumption) ?_
      rw [show nI i - nI i / nI 5 * nI 5 = nI (i % 5) from pk_rem (by omega) (by omega) (by omega)]
      refine jj_callVi (na := 2) F (c_X9_userNow h9.1 (u := i / 5) (w := i % 5) (by omega) (by omega) hWW) (gl_V mk_X9_295 vw_X9_userNow) rfl rfl rfl (by decide +kernel) ⟨Nat.le_of_ble_eq_true rfl, Nat.le_of_ble_eq_true rfl⟩ kM rfl rfl rfl (Nat.le_of_ble_eq_true rfl) ⟨Nat.le_of_ble_eq_true rfl, Nat.le_of_ble_eq_true rfl⟩ dX9_digest_117 (fun r117 M117 hp117 => ?_)
      obtain rfl := hp117.1
      refine jj_i2l F dX9_digest_120 ?_
      refine jj_callVv (na := 1) F c_X9_mix (gl_V mk_X9_306 vw_X9_mix) rfl rfl rfl (by decide +kernel) ⟨Nat.le_of_ble_eq_true rfl, Nat.le_of_ble_eq_true rfl⟩ kM rfl rfl rfl (Nat.le_of_ble_eq_true rfl) ⟨Nat.le_of_ble_eq_true rfl, Nat.le_of_ble_eq_true rfl⟩ dX9_digest_121 (fun Mx121 hx121 => ?_)
      obtain rfl := hx121.symm
      refine jj_iinc F dX9_digest_124 rfl (by first | exact iinc1 _ | rfl) (by rw [hnl]; decide) ?_
      dsimp only [lq_st, lq_clr, lq_no]
      refine jj_goto F (tgt := 103) dX9_digest_127 (by decide) ?_
      exact ih _ (P1_mix h9 hp117.2.1 hp117.2.2)
  have l3 : ∀ i, i ≤ 11 * a_n a → ∀ M9 : Mm, P1 M0 M9 a W (fo (fun k => opA a (k / 11) (k % 11)) (dg2 a 256) i) → JJ Z (0, 0) M9 67 [some (.ref ((zE Z).2.2 478)), some (.int (nI i))] [] := by
    refine jj_loop (11 * a_n a) ?_ ?_
    · intro M9 h9
      have hM9 : RelM M9 a W := h9.1.1
      refine jj_iload_n F dX9_digest_67 rfl ?_
      refine jj_bipush F (v := nI 11) dX9_digest_68 (by decide) ?_
      refine jj_aload_n F dX9_digest_70 rfl ?_
      refine jj_geti F g95 (by assumption) (by rfl) dX9_digest_71 ?_
      rw [hM9.1.2.2.2.1]
      refine jj_imul F dX9_digest_74 ?_
      rw [pk_mul]
      refine jj_icmp_ge F (tgt := 101) dX9_digest_75 (by decide) (fun _ => ?_) (fun h9 => absurd (nI_le (by omega) (by omega)) h9)
      refine jj_iconst F (v := nI 0) dX9_digest_101 (by decide) ?_
      refine jj_istore_n F dX9_digest_102 (by rw [hnl]; decide) ?_
      dsimp only [lq_st, lq_clr, lq_no]
      refine l4 0 (by omega) M9 ⟨h9.1, h9.2.1, ?_⟩
      rw [h9.2.2]
      exact fo_flat (by omega) _ _
    · intro i hi ih M9 h9
      have hM9 : RelM M9 a W := h9.1.1
      refine jj_iload_n F dX9_digest_67 rfl ?_
      refine jj_bipush F (v := nI 11) dX9_digest_68 (by decide) ?_
      refine jj_aload_n F dX9_digest_70 rfl ?_
      refine jj_geti F g95 (by assumption) (by rfl) dX9_digest_71 ?_
      rw [hM9.1.2.2.2.1]
      refine jj_imul F dX9_digest_74 ?_
      rw [pk_mul]
      refine jj_icmp_ge F (tgt := 101) dX9_digest_75 (by decide) (fun h9 => absurd h9 (nI_ge (by omega) (by omega))) (fun _ => ?_)
      refine jj_aload_n F dX9_digest_78 rfl ?_
      refine jj_aload_n F dX9_digest_79 rfl ?_
      refine jj_iload_n F dX9_digest_80 rfl ?_
      refine jj_bipush F (v := nI 11) dX9_digest_81 (by decide) ?_
      refine jj_idiv F dX9_digest_83 (by first | decide | assumption) ?_
      rw [show nI i / nI 11 = nI (i / 11) from pk_div (by omega) (by omega) (by omega)]
      refine jj_iload_n F dX9_digest_84 rfl ?_
      refine jj_bipush F (v := nI 11) dX9_digest_85 (by decide) ?_
      refine jj_irem F dX9_digest_87 (by first | decide | assumption) ?_
      rw [show nI i - nI i / nI 11 * nI 11 = nI (i % 11) from pk_rem (by omega) (by omega) (by omega)]
      refine jj_callVi (na := 2) F (c_X9_told h9.1 (k := i / 11) (w := i % 11) (by omega) (by omega)) (gl_V mk_X9_292 vw_X9_told) rfl rfl rfl (by decide +kernel) ⟨Nat.le_of_ble_eq_true rfl, Nat.le_of_ble_eq_true rfl⟩ kM rfl rfl rfl (Nat.le_of_ble_eq_true rfl) ⟨Nat.le_of_ble_eq_true rfl, Nat.le_of_ble_eq_true rfl⟩ dX9_digest_88 (fun r88 M88 hp88 => ?_)
      obtain rfl := hp88.1
      refine jj_i2l F dX9_digest_91 ?_
      refine jj_callVv (na := 1) F c_X9_mix (gl_V mk_X9_306 vw_X9_mix) rfl rfl rfl (by decide +kernel) ⟨Nat.le_of_ble_eq_true rfl, Nat.le_of_ble_eq_true rfl⟩ kM rfl rfl rfl (Nat.le_of_ble_eq_true rfl) ⟨Nat.le_of_ble_eq_true rfl, Nat.le_of_ble_eq_true rfl⟩ dX9_digest_92 (fun Mx92 hx92 => ?_)
      obtain rfl := hx92.symm
      refine jj_iinc F dX9_digest_95 rfl (by first | exact iinc1 _ | rfl) (by rw [hnl]; decide) ?_
      dsimp only [lq_st, lq_clr, lq_no]
      refine jj_goto F (tgt := 67) dX9_digest_98 (by decide) ?_
      exact ih _ (P1_mix h9 hp88.2.1 hp88.2.2)
  have l2 : ∀ i, i ≤ 256 → ∀ M9 : Mm, P1 M0 M9 a W (dg2 a i) → JJ Z (0, 0) M9 42 [some (.ref ((zE Z).2.2 478)), some (.int (nI i))] [] := by
    refine jj_loop (256) ?_ ?_
    · intro M9 h9
      have hM9 : RelM M9 a W := h9.1.1
      refine jj_iload_n F dX9_digest_42 rfl ?_
      refine jj_sipush F (v := nI 256) dX9_digest_43 (by decide) ?_
      refine jj_icmp_ge F (tgt := 65) dX9_digest_46 (by decide) (fun _ => ?_) (fun h9 => absurd (nI_le (by omega) (by omega)) h9)
      refine jj_iconst F (v := nI 0) dX9_digest_65 (by decide) ?_
      refine jj_istore_n F dX9_digest_66 (by rw [hnl]; decide) ?_
      dsimp only [lq_st, lq_clr, lq_no]
      exact l3 0 (by omega) M9 h9
    · intro i hi ih M9 h9
      have hM9 : RelM M9 a W := h9.1.1
      have hT9 := Ld_tops h9.1
      refine jj_iload_n F dX9_digest_42 rfl ?_
      refine jj_sipush F (v := nI 256) dX9_digest_43 (by decide) ?_
      refine jj_icmp_ge F (tgt := 65) dX9_digest_46 (by decide) (fun h9 => absurd h9 (nI_ge (by omega) (by omega))) (fun _ => ?_)
      refine jj_aload_n F dX9_digest_49 rfl ?_
      refine jj_aload_n F dX9_digest_50 rfl ?_
      refine jj_iload_n F dX9_digest_51 rfl ?_
      refine jj_callVi (na := 1) F (c_X9_shown hT9 hi) (gl_V mk_X9_132 vw_X9_shown) rfl rfl rfl (by decide +kernel) ⟨Nat.le_of_ble_eq_true rfl, Nat.le_of_ble_eq_true rfl⟩ kM rfl rfl rfl (Nat.le_of_ble_eq_true rfl) ⟨Nat.le_of_ble_eq_true rfl, Nat.le_of_ble_eq_true rfl⟩ dX9_digest_52 (fun r52 M52 hp52 => ?_)
      obtain ⟨rfl, rfl⟩ := symm2 hp52
      rw [Ld_sh h9.1 hi]
      refine jj_i2l F dX9_digest_55 ?_
      refine jj_callVv (na := 1) F c_X9_mix (gl_V mk_X9_306 vw_X9_mix) rfl rfl rfl (by decide +kernel) ⟨Nat.le_of_ble_eq_true rfl, Nat.le_of_ble_eq_true rfl⟩ kM rfl rfl rfl (Nat.le_of_ble_eq_true rfl) ⟨Nat.le_of_ble_eq_true rfl, Nat.le_of_ble_eq_true rfl⟩ dX9_digest_56 (fun Mx56 hx56 => ?_)
      obtain rfl := hx56.symm
      refine jj_iinc F dX9_digest_59 rfl (by first | exact iinc1 _ | rfl) (by rw [hnl]; decide) ?_
      dsimp only [lq_st, lq_clr, lq_no]
      refine jj_goto F (tgt := 42) dX9_digest_62 (by decide) ?_
      have hz := ih _ (P1_mix (v := clA a i) h9 h9.1 (Fr_rf _))
      exact hz
  have l1 : ∀ i, i ≤ 10 → ∀ M9 : Mm, P1 M0 M9 a W (dg1 a i) → JJ Z (0, 0) M9 18 [some (.ref ((zE Z).2.2 478)), some (.int (nI i))] [] := by
    refine jj_loop (10) ?_ ?_
    · intro M9 h9
      have hM9 : RelM M9 a W := h9.1.1
      refine jj_iload_n F dX9_digest_18 rfl ?_
      refine jj_bipush F (v := nI 10) dX9_digest_19 (by decide) ?_
      refine jj_icmp_ge F (tgt := 40) dX9_digest_21 (by decide) (fun _ => ?_) (fun h9 => absurd (nI_le (by omega) (by omega)) h9)
      refine jj_iconst F (v := nI 0) dX9_digest_40 (by decide) ?_
      refine jj_istore_n F dX9_digest_41 (by rw [hnl]; decide) ?_
      dsimp only [lq_st, lq_clr, lq_no]
      exact l2 0 (by omega) M9 h9
    · intro i hi ih M9 h9
      have hM9 : RelM M9 a W := h9.1.1
      refine jj_iload_n F dX9_digest_18 rfl ?_
      refine jj_bipush F (v := nI 10) dX9_digest_19 (by decide) ?_
      refine jj_icmp_ge F (tgt := 40) dX9_digest_21 (by decide) (fun h9 => absurd h9 (nI_ge (by omega) (by omega))) (fun _ => ?_)
      refine jj_aload_n F dX9_digest_24 rfl ?_
      refine jj_aload_n F dX9_digest_25 rfl ?_
      refine jj_iload_n F dX9_digest_26 rfl ?_
      refine jj_callVi (na := 1) F (c_X9_counted h9.1 hi) (gl_V mk_X9_283 vw_X9_counted) rfl rfl rfl (by decide +kernel) ⟨Nat.le_of_ble_eq_true rfl, Nat.le_of_ble_eq_true rfl⟩ kM rfl rfl rfl (Nat.le_of_ble_eq_true rfl) ⟨Nat.le_of_ble_eq_true rfl, Nat.le_of_ble_eq_true rfl⟩ dX9_digest_27 (fun r27 M27 hp27 => ?_)
      obtain rfl := hp27.1
      refine jj_i2l F dX9_digest_30 ?_
      refine jj_callVv (na := 1) F c_X9_mix (gl_V mk_X9_306 vw_X9_mix) rfl rfl rfl (by decide +kernel) ⟨Nat.le_of_ble_eq_true rfl, Nat.le_of_ble_eq_true rfl⟩ kM rfl rfl rfl (Nat.le_of_ble_eq_true rfl) ⟨Nat.le_of_ble_eq_true rfl, Nat.le_of_ble_eq_true rfl⟩ dX9_digest_31 (fun Mx31 hx31 => ?_)
      obtain rfl := hx31.symm
      refine jj_iinc F dX9_digest_34 rfl (by first | exact iinc1 _ | rfl) (by rw [hnl]; decide) ?_
      dsimp only [lq_st, lq_clr, lq_no]
      refine jj_goto F (tgt := 18) dX9_digest_37 (by decide) ?_
      exact ih _ (P1_mix h9 hp27.2.1 hp27.2.2)
  refine jj_aload_n F dX9_digest_0 rfl ?_
  refine jj_iconst F (v := nI 0) dX9_digest_1 (by decide) ?_
  refine jj_puti F p87 (by assumption) (by rfl) dX9_digest_2 ?_
  refine jj_aload_n F dX9_digest_5 rfl ?_
  refine jj_ldc2 F (v := 1933) dX9_digest_6 (F.hts _ (List.mem_cons_of_mem _ (gl_tb (by decide +kernel) rfl))) ?_
  refine jj_putl F p300 (by assumption) (by rfl) dX9_digest_9 ?_
  refine jj_aload_n F dX9_digest_12 rfl ?_
  have hm1 : RelM (wL (thr M (nI 0)) 478 (vp_updL ((thr M (nI 0)).2 478) 32 1933)) a W := RelM_h (RelM_thr hM)
  refine jj_callVv (na := 0) F (c_X9_layNow hm1) (gl_V mk_X9_201 vw_X9_layNow) rfl rfl rfl (by decide +kernel) ⟨Nat.le_of_ble_eq_true rfl, Nat.le_of_ble_eq_true rfl⟩ kM rfl rfl rfl (Nat.le_of_ble_eq_true rfl) ⟨Nat.le_of_ble_eq_true rfl, Nat.le_of_ble_eq_true rfl⟩ dX9_digest_13 (fun M13 hp13 => ?_)
  refine jj_iconst F (v := nI 0) dX9_digest_16 (by decide) ?_
  refine jj_istore_n F dX9_digest_17 (by rw [hnl]; decide) ?_
  dsimp only [lq_st, lq_clr, lq_no]
  refine l1 0 (by omega) M13 ⟨Ld_lay hm1 hp13, FrD_tr (FrD_h (M := M0)) (FrD_of (Fr_lay hp13)), ?_⟩
  rw [(Fr_lay hp13).2.1, wL_s]
  rfl
