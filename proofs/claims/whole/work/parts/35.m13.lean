theorem RelM_add {M M2 : Mm} {a : Ab} {W : Nat} {f : Nat → Int32} {u : Nat} {S : Nat → Bool} (hM : RelM M a W) (h60 : a_n a < 60) (hf : opOk (a_t a) f) (h478 : ∀ b, b = 1 ∨ b = 11 ∨ b = 13 ∨ b = 22 → M2.1 478 b = M.1 478 b) (h2 : M2.1 478 2 = nI (a_n a + 1)) (hop : ∀ b, b < 6 → ∀ i, i ≤ a_n a → M2.1 (479 + b) i = if i = a_n a then f b else M.1 (479 + b) i) (hac : ∀ i, i ≤ a_n a → M2.1 485 i = if i = a_n a then nI 1 else M.1 485 i) (hun : ∀ i, i ≤ a_n a → M2.1 486 i = if i = a_n a then nI 0 else if M.1 480 i = nI u then nI 0 else M.1 486 i) (hot : ∀ x, 488 ≤ x → x ≤ 496 → M2.1 x = M.1 x) (hC : ∃ C : Nat → Nat → Bool, M2.2 487 = lws C ∧ (∀ i, i < a_n a → ∀ c, c < 256 → C i c = a_C a i c) ∧ ∀ c, c < 256 → C (a_n a) c = S c) (h494 : M2.2 494 = M.2 494) (h497 : ∃ L, M2.2 497 = lws L) : RelM M2 (addA a f u S (a_ln a)) W := by
  obtain ⟨⟨o1, o2, o3, o4, o5, o6, o7, o8, ⟨u0, u1, u2, u3⟩, C0, o9, o10⟩, ⟨l1, l2, l3⟩, hK, ⟨t1, t2, t3⟩, -⟩ := hM
  obtain ⟨C, c1, c2, c3⟩ := hC
  have ns : ∀ i, i < a_n a + 1 → i ≠ a_n a → i < a_n a := fun i h h2 => by omega
  refine ⟨⟨h60, o2, by rw [h478 1 (by simp)]; exact o3, h2, fun i hi b hb => ?_, fun i hi => ?_, fun i hi => ?_, fun i hi => ?_, ⟨u0, u1, by rw [h478 11 (by simp)]; exact u2, fun i hi => ?_⟩, C, c1, fun i hi c hc => ?_⟩, ⟨l1, by rw [h478 13 (by simp)]; exact l2, fun j z hz => by rw [hot 488 (by omega) (by omega), hot 489 (by omega) (by omega), hot 490 (by omega) (by omega), hot 491 (by omega) (by omega)]; exact l3 j z hz⟩, fun m hm => ?_, ⟨by rw [h478 22 (by simp)]; exact t1, t2, fun i hi => by rw [hot 496 (by omega) (by omega)]; exact t3 i hi⟩, h497⟩
  · have hi : i < a_n a + 1 := hi
    rw [hop b hb i (by omega)]
    show _ = (if i = a_n a then f else a_op a i) b
    by_cases q : i = a_n a
    · rw [if_pos q, if_pos q]
    · rw [if_neg q, if_neg q]; exact o5 i (ns i hi q) b hb
  · have hi : i < a_n a + 1 := hi
    rw [hac i (by omega)]
    show _ = b2i (if i = a_n a then true else a_ac a i)
    by_cases q : i = a_n a
    · rw [if_pos q, if_pos q]; rfl
    · rw [if_neg q, if_neg q]; exact o6 i (ns i hi q)
  · have hi : i < a_n a + 1 := hi
    rw [hun i (by omega)]
    show _ = nI (if i = a_n a then 0 else if a_op a i 1 = nI u then 0 else a_un a i)
    by_cases q : i = a_n a
    · rw [if_pos q, if_pos q]
    · rw [if_neg q, if_neg q, show M.1 480 i = a_op a i 1 from o5 i (ns i hi q) 1 (by omega)]
      by_cases q2 : a_op a i 1 = nI u
      · rw [if_pos q2, if_pos q2]
      · rw [if_neg q2, if_neg q2]; exact o7 i (ns i hi q)
  · have hi : i < a_n a + 1 := hi
    show opOk (a_t a) (if i = a_n a then f else a_op a i)
    by_cases q : i = a_n a
    · rw [if_pos q]; exact hf
    · rw [if_neg q]; exact o8 i (ns i hi q)
  · have hi : i < a_n a + 1 := hi
    show (if i = a_n a then 0 else if a_op a i 1 = nI u then 0 else a_un a i) ≤ u0
    by_cases q : i = a_n a
    · rw [if_pos q]; omega
    · rw [if_neg q]
      split
      · omega
      · exact u3 i (ns i hi q)
  · have hi : i < a_n a + 1 := hi
    show C i c = (if i = a_n a then S else a_C a i) c
    by_cases q : i = a_n a
    · rw [if_pos q, q]; exact c3 c hc
    · rw [if_neg q]; exact c2 i (ns i hi q) c hc
  · rw [hot 495 (by omega) (by omega), hot 492 (by omega) (by omega), hot 493 (by omega) (by omega), h494]
    have := hK m hm
    refine ⟨this.1, fun hs => ?_⟩
    obtain ⟨k1, k2, k3⟩ := this.2 hs
    exact ⟨k1, Nat.le_succ_of_le k2, k3⟩
theorem rect_256 {a b c : Nat} (ha : a < 256) (hb : b < 256) (h : 256 ≤ c) : rect a b c = false := rect_out (by
  have : a / 16 < 16 := by omega
  have : b / 16 < 16 := by omega
  have : 16 ≤ c / 16 := by omega
  omega)
theorem clo_256 {t : Nat} {lk : List Lz} {u d : Nat} (h : lkOk t lk) (hd : 256 ≤ d) : clo lk u d = false := by
  unfold clo
  rw [List.any_eq_false]
  intro z hz
  obtain ⟨-, h1, h2, -⟩ := h.2 z hz
  rw [rect_256 h1 h2 hd, Bool.and_false]
  decide
theorem clo_ex {M : Mm} {t : Nat} {lk : List Lz} {u c : Nat} (h : RelML M t lk) (hu : u < 2 ^ 31) : exB lk.length (fun j => !decide (M.1 488 j = nI u) && rect (lkD lk j).2.1 (lkD lk j).2.2.1 c) = clo lk u c := by
  unfold clo
  rw [← exB_list (0, 0, 0, 0)]
  refine exB_cong (fun j hj => ?_)
  obtain ⟨h1, -, -, h5, -⟩ := ml_h h j hj
  rw [h1]
  have : decide (nI (lkD lk j).1 = nI u) = decide ((lkD lk j).1 = u) := by
    rw [Bool.eq_iff_iff]
    simp only [decide_eq_true_eq]
    exact nI_eq (by omega) hu
  rw [this]
def FrA (M M2 : Mm) : Prop := (∀ x, x < 478 → M2.1 x = M.1 x) ∧ M2.2 504 = M.2 504 ∧ M2.1 478 0 = M.1 478 0 ∧ M2.1 500 = M.1 500
theorem cs_sub {S cl : Nat → Bool} {i : Nat} (h : cl i = true) : ∀ d, (S d && !(decide (d < i + 1) && cl d)) = ((S d && !(decide (d < i) && cl d)) && !(d == i)) := fun d => by
  by_cases q : d = i
  · subst q; simp [h]
  · rw [show (d == i) = false by rw [beq_eq_false_iff_ne]; exact q, show decide (d < i + 1) = decide (d < i) by rw [Bool.eq_iff_iff]; simp only [decide_eq_true_eq]; omega]
    simp
theorem cs_no {S cl : Nat → Bool} {i : Nat} (h : cl i = false) : (fun d => S d && !(decide (d < i + 1) && cl d)) = (fun d => S d && !(decide (d < i) && cl d)) := by
  funext d
  by_cases q : d = i
  · subst q; simp [h]
  · rw [show decide (d < i + 1) = decide (d < i) by rw [Bool.eq_iff_iff]; simp only [decide_eq_true_eq]; omega]
theorem cs_end {t : Nat} {lk : List Lz} {u : Nat} {S : Nat → Bool} (h : lkOk t lk) : (fun d => S d && !(decide (d < 256) && clo lk u d)) = (fun d => S d && !clo lk u d) := by
  funext d
  by_cases q : d < 256
  · simp [q]
  · rw [clo_256 h (by omega)]; simp
theorem cs_0 {S cl : Nat → Bool} : (fun d => S d && !(decide (d < 0) && cl d)) = S := by
  funext d; simp
set_option maxRecDepth 100000 in
set_option maxHeartbeats 1000000 in
theorem c_X9_add {l : Launch} {E : Ee} {M : Mm} {a : Ab} {W : Nat} (hM : RelM M a W) {C0 : Nat → Nat → Bool} {S : Nat → Bool} {so u la co fa : Nat} (h60 : a_n a < 60) (hC9 : M.2 487 = lws (setC C0 (a_n a) S)) (hCx : ∀ i, i < a_n a → ∀ c, c < 256 → C0 i c = a_C a i c) (hu5 : u < 5) (hopf : opOk (a_t a) (opF so u la co fa (a_t a))) : CtI l E yX9_add (.code yX9_add cX9_add 7 (some .int) :: gl) ({ frames := 3, cells := 0, slots := 0, locals := 73 } : Room) M [.ref (E.2.2 478), .int (nI so), .int (nI u), .int (nI la), .int (nI co), .int (nI fa)] 0 0 (fun r M2 => r = nI (csz (fun d => S d && !clo (a_lk a) u d)) ∧ RelM M2 (addA a (opF so u la co fa (a_t a)) u (fun d => S d && !clo (a_lk a) u d) (a_ln a)) W ∧ FrA M M2) := by
  refine ctI_of (L0 := [some (.ref (E.2.2 478)), some (.int (nI so)), some (.int (nI u)), some (.int (nI la)), some (.int (nI co)), some (.int (nI fa)), none]) (by decide) rfl (Nat.le_of_ble_eq_true rfl) rfl ?_
  intro Z hl hE hnl F ret
  subst hE
  have in_X9 : ∀ w ∈ u_ws RX9 TX9 33, w ∈ (.code yX9_add cX9_add 7 (some .int) :: gl) := fun w h => List.mem_cons_of_mem _ (lay_X9 w h)
  have g7 : FG Z 7 9 3 := fg_mk F (C := RX9) (T := TX9) (N := 33) in_X9 rfl (by decide) rfl (List.mem_cons_of_mem _ fk_X9_7)
  have g13 : FG Z 13 9 4 := fg_mk F (C := RX9) (T := TX9) (N := 33) in_X9 rfl (by decide) rfl (List.mem_cons_of_mem _ fk_X9_13)
  have g16 : FG Z 16 9 5 := fg_mk F (C := RX9) (T := TX9) (N := 33) in_X9 rfl (by decide) rfl (List.mem_cons_of_mem _ fk_X9_16)
  have g19 : FG Z 19 9 6 := fg_mk F (C := RX9) (T := TX9) (N := 33) in_X9 rfl (by decide) rfl (List.mem_cons_of_mem _ fk_X9_19)
  have g22 : FG Z 22 9 7 := fg_mk F (C := RX9) (T := TX9) (N := 33) in_X9 rfl (by decide) rfl (List.mem_cons_of_mem _ fk_X9_22)
  have g25 : FG Z 25 9 8 := fg_mk F (C := RX9) (T := TX9) (N := 33) in_X9 rfl (by decide) rfl (List.mem_cons_of_mem _ fk_X9_25)
  have g28 : FG Z 28 9 9 := fg_mk F (C := RX9) (T := TX9) (N := 33) in_X9 rfl (by decide) rfl (List.mem_cons_of_mem _ fk_X9_28)
  have g32 : FG Z 32 9 10 := fg_mk F (C := RX9) (T := TX9) (N := 33) in_X9 rfl (by decide) rfl (List.mem_cons_of_mem _ fk_X9_32)
  have g35 : FG Z 35 9 12 := fg_mk F (C := RX9) (T := TX9) (N := 33) in_X9 rfl (by decide) rfl (List.mem_cons_of_mem _ fk_X9_35)
  have g95 : FG Z 95 9 2 := fg_mk F (C := RX9) (T := TX9) (N := 33) in_X9 rfl (by decide) rfl (List.mem_cons_of_mem _ fk_X9_95)
  have g126 : FG Z 126 9 1 := fg_mk F (C := RX9) (T := TX9) (N := 33) in_X9 rfl (by decide) rfl (List.mem_cons_of_mem _ fk_X9_126)
  have p95 : FP Z 95 9 2 .int := fp_mk F (C := RX9) (T := TX9) (N := 33) in_X9 tyX9_ok nmX9 rfl (by decide) rfl (List.mem_cons_of_mem _ fk_X9_95) rfl (by decide +kernel)
  obtain ⟨⟨-, ht, htk, hn, hop, hac, hun, hopk, ⟨u0, hu1, hu2, hu3⟩, C, hC, hCa⟩, ⟨hlk, hll, hlz⟩, hK, ⟨hln, hl40, htx⟩, L0, hL0⟩ := id hM
  have hmlh := ml_h hM.2.1
  have kM := kd_M
  have k479 := kd_479
  have k480 := kd_480
  have k481 := kd_481
  have k482 := kd_482
  have k483 := kd_483
  have k484 := kd_484
  have k485 := kd_485
  have k486 := kd_486
  have k487 := kd_487
  have k488 := kd_488
  have k489 := kd_489
  have k490 := kd_490
  have k491 := kd_491
  have k492 := kd_492
  have k493 := kd_493
  have k494 := kd_494
  have k495 := kd_495
  have k496 := kd_496
  have k497 := kd_497
  have k498 := kd_498
  have k499 := kd_499
  have k500 := kd_500
  have k501 := kd_501
  have k502 := kd_502
  have k503 := kd_503
  have l2 : ∀ i, i ≤ (a_n a) → JJ Z (0, 0) ((wA (wL M 487 (lws (setC C0 (a_n a) (fun d => S d && !clo (a_lk a) u d)))) 486 (fl i (fun k => if M.1 480 k = nI u then nI 0 else M.1 486 k) (M.1 486)))) 61 [some (.ref ((zE Z).2.2 478)), some (.int (nI so)), some (.int (nI u)), some (.int (nI la)), some (.int (nI co)), some (.int (nI fa)), some (.int (nI i))] [] := by
    refine jj_loop ((a_n a)) ?_ ?_
    · refine jj_iload F dX9_add_61 rfl ?_
      refine jj_aload_n F dX9_add_63 rfl ?_
      refine jj_geti F g95 (by assumption) (by rfl) dX9_add_64 ?_
      rw [wA_1n (by decide), wL_1, hn]
      refine jj_icmp_ge F (tgt := 105) dX9_add_67 (by decide) (fun _ => ?_) (fun h9 => absurd (nI_le (by omega) (by omega)) h9)
      refine jj_aload_n F dX9_add_105 rfl ?_
      refine jj_getr F g7 (by assumption) (by rfl) dX9_add_106 ?_
      refine jj_aload_n F dX9_add_109 rfl ?_
      refine jj_geti F g95 (by assumption) (by rfl) dX9_add_110 ?_
      refine jj_topi hn ?_
      refine jj_iload_n F dX9_add_113 rfl ?_
      refine jj_iast F (by assumption) rfl (by omega) dX9_add_114 ?_
      refine jj_aload_n F dX9_add_115 rfl ?_
      refine jj_getr F g13 (by assumption) (by rfl) dX9_add_116 ?_
      refine jj_aload_n F dX9_add_119 rfl ?_
      refine jj_geti F g95 (by assumption) (by rfl) dX9_add_120 ?_
      refine jj_topi hn ?_
      refine jj_iload_n F dX9_add_123 rfl ?_
      refine jj_iast F (by assumption) rfl (by omega) dX9_add_124 ?_
      refine jj_aload_n F dX9_add_125 rfl ?_
      refine jj_getr F g16 (by assumption) (by rfl) dX9_add_126 ?_
      refine jj_aload_n F dX9_add_129 rfl ?_
      refine jj_geti F g95 (by assumption) (by rfl) dX9_add_130 ?_
      refine jj_topi hn ?_
      refine jj_iload_n F dX9_add_133 rfl ?_
      refine jj_iast F (by assumption) rfl (by omega) dX9_add_134 ?_
      refine jj_aload_n F dX9_add_135 rfl ?_
      refine jj_getr F g19 (by assumption) (by rfl) dX9_add_136 ?_
      refine jj_aload_n F dX9_add_139 rfl ?_
      refine jj_geti F g95 (by assumption) (by rfl) dX9_add_140 ?_
      refine jj_topi hn ?_
      refine jj_iload F dX9_add_143 rfl ?_
      refine jj_iast F (by assumption) rfl (by omega) dX9_add_145 ?_
      refine jj_aload_n F dX9_add_146 rfl ?_
      refine jj_getr F g22 (by assumption) (by rfl) dX9_add_147 ?_
      refine jj_aload_n F dX9_add_150 rfl ?_
      refine jj_geti F g95 (by assumption) (by rfl) dX9_add_151 ?_
      refine jj_topi hn ?_
      refine jj_iload F dX9_add_154 rfl ?_
      refine jj_iast F (by assumption) rfl (by omega) dX9_add_156 ?_
      refine jj_aload_n F dX9_add_157 rfl ?_
      refine jj_getr F g25 (by assumption) (by rfl) dX9_add_158 ?_
      refine jj_aload_n F dX9_add_161 rfl ?_
      refine jj_geti F g95 (by assumption) (by rfl) dX9_add_162 ?_
      refine jj_topi hn ?_
      refine jj_aload_n F dX9_add_165 rfl ?_
      refine jj_geti F g126 (by assumption) (by rfl) dX9_add_166 ?_
      refine jj_iast F (by assumption) rfl (by omega) dX9_add_169 ?_
      refine jj_aload_n F dX9_add_170 rfl ?_
      refine jj_getr F g28 (by assumption) (by rfl) dX9_add_171 ?_
      refine jj_aload_n F dX9_add_174 rfl ?_
      refine jj_geti F g95 (by assumption) (by rfl) dX9_add_175 ?_
      refine jj_topi hn ?_
      refine jj_iconst F (v := nI 1) dX9_add_178 (by decide) ?_
      refine jj_zast F (by assumption) rfl (by omega) (by first | exact Or.inl rfl | exact Or.inr rfl | exact b2i_01 _ | assumption) dX9_add_179 ?_
      refine jj_aload_n F dX9_add_180 rfl ?_
      refine jj_getr F g32 (by assumption) (by rfl) dX9_add_181 ?_
      refine jj_aload_n F dX9_add_184 rfl ?_
      refine jj_geti F g95 (by assumption) (by rfl) dX9_add_185 ?_
      refine jj_topi hn ?_
      refine jj_iconst F (v := nI 0) dX9_add_188 (by decide) ?_
      refine jj_iast F (by assumption) rfl (by omega) dX9_add_189 ?_
      refine jj_aload_n F dX9_add_190 rfl ?_
      refine jj_dup F dX9_add_191 rfl ?_
      refine jj_geti F g95 (by assumption) (by rfl) dX9_add_192 ?_
      refine jj_topi hn ?_
      refine jj_iconst F (v := nI 1) dX9_add_195 (by decide) ?_
      refine jj_iadd F dX9_add_196 ?_
      rw [nI_add]
      refine jj_puti F p95 (by assumption) (by rfl) dX9_add_197 ?_
      refine jj_aload_n F dX9_add_200 rfl ?_
      refine jj_getr F g35 (by assumption) (by rfl) dX9_add_201 ?_
      refine jj_aload_n F dX9_add_204 rfl ?_
      refine jj_geti F g95 (by assumption) (by rfl) dX9_add_205 ?_
      refine jj_topi (show _ = nI (a_n a + 1) from rfl) ?_
      refine jj_iconst F (v := nI 1) dX9_add_208 (by decide) ?_
      refine jj_isub F dX9_add_209 ?_
      rw [nI_pred1]
      refine jj_callSi (na := 2) F (c_X9_sizeIn (r := 487) (k := a_n a) (C := setC C0 (a_n a) (fun d => S d && !clo (a_lk a) u d)) k487 rfl (by omega)) (gl_S mk_X9_173 vw_X9_sizeIn) rfl rfl rfl (by decide +kernel) ⟨Nat.le_of_ble_eq_true rfl, Nat.le_of_ble_eq_true rfl⟩ rfl rfl (Nat.le_of_ble_eq_true rfl) ⟨Nat.le_of_ble_eq_true rfl, Nat.le_of_ble_eq_true rfl⟩ dX9_add_210 (fun r210 M210 hp210 => ?_)
      obtain ⟨rfl, rfl⟩ := symm2 hp210
      refine ret _ _ _ _ dX9_add_213 (by first | rfl | exact nar_z (by first | exact Or.inl rfl | exact Or.inr rfl | exact b2i_01 _ | assumption)) ?_
      refine ⟨by rw [setC_n], ?_, ⟨fun x hx => ?_, ?_, ?_, ?_⟩⟩
      · refine RelM_add hM h60 hopf (fun b hb => by rcases hb with rfl | rfl | rfl | rfl <;> rfl) rfl (fun b hb i hi => by
          rcases (show b = 0 ∨ b = 1 ∨ b = 2 ∨ b = 3 ∨ b = 4 ∨ b = 5 by omega) with rfl | rfl | rfl | rfl | rfl | rfl
          · rfl
          · rfl
          · rfl
          · rfl
          · rfl
          · show (if i = a_n a then M.1 478 1 else M.1 484 i) = _
            rw [htk]
            rfl) (fun i hi => rfl) (fun i hi => ?_) (fun x h1 h2 => ?_) ⟨_, rfl, fun i hi c hc => ?_, fun c hc => ?_⟩ rfl ⟨L0, hL0⟩
        · show (if i = a_n a then nI 0 else fl (a_n a) (fun k => if M.1 480 k = nI u then nI 0 else M.1 486 k) (M.1 486) i) = _
          by_cases q : i = a_n a
          · rw [if_pos q, if_pos q]
          · rw [if_neg q, if_neg q, fl_in (by omega)]
        · rw [wA_n (by omega), wA_n (by omega), wA_n (by omega), wA_n (by omega), wA_n (by omega), wA_n (by omega), wA_n (by omega), wA_n (by omega), wA_n (by omega), wA_n (by omega), wL_1]
        · rw [setC_o (by omega)]; exact hCx i hi c hc
        · rw [setC_n]
      · rw [wA_n (by omega), wA_n (by omega), wA_n (by omega), wA_n (by omega), wA_n (by omega), wA_n (by omega), wA_n (by omega), wA_n (by omega), wA_n (by omega), wA_n (by omega), wL_1]
      · rfl
      · rfl
      · rfl
    · intro i hi ih
      refine jj_iload F dX9_add_61 rfl ?_
      refine jj_aload_n F dX9_add_63 rfl ?_
      refine jj_geti F g95 (by assumption) (by rfl) dX9_add_64 ?_
      rw [wA_1n (by decide), wL_1, hn]
      refine jj_icmp_ge F (tgt := 105) dX9_add_67 (by decide) (fun h9 => absurd h9 (nI_ge (by omega) (by omega))) (fun _ => ?_)
      refine jj_aload_n F dX9_add_70 rfl ?_
      refine jj_getr F g32 (by assumption) (by rfl) dX9_add_71 ?_
      refine jj_iload F dX9_add_74 rfl ?_
      refine jj_aload_n F dX9_add_76 rfl ?_
      refine jj_getr F g13 (by assumption) (by rfl) dX9_add_77 ?_
      refine jj_iload F dX9_add_80 rfl ?_
      refine jj_iald F (by assumption) rfl (by omega) dX9_add_82 ?_
      rw [wA_1n (by decide), wL_1]
      refine jj_iload_n F dX9_add_83 rfl ?_
      refine jj_icmp_ne F (tgt := 91) dX9_add_84 (by decide) (fun h84 => ?_) (fun h84 => ?_)
      · refine jj_aload_n F dX9_add_91 rfl ?_
        refine jj_getr F g32 (by assumption) (by rfl) dX9_add_92 ?_
        refine jj_iload F dX9_add_95 rfl ?_
        refine jj_iald F (by assumption) rfl (by omega) dX9_add_97 ?_
        rw [wA_1s, fl_out (by omega)]
        refine jj_iast F (by assumption) rfl (by omega) dX9_add_98 ?_
        refine jj_iinc F dX9_add_99 rfl (by first | exact iinc1 _ | rfl) (by rw [hnl]; decide) ?_
        dsimp only [lq_st, lq_clr, lq_no]
        refine jj_goto F (tgt := 61) dX9_add_102 (by decide) ?_
        rw [fl_put ?_]
        · exact ih
        · show _ = (if M.1 480 i = nI u then nI 0 else M.1 486 i)
          first
          | (have z : M.1 480 i = nI u := h84; rw [if_pos z]; done)
          | (have z : ¬ M.1 480 i = nI u := h84; rw [if_neg z]; done)
      · refine jj_iconst F (v := nI 0) dX9_add_87 (by decide) ?_
        refine jj_goto F (tgt := 98) dX9_add_88 (by decide) ?_
        refine jj_iast F (by assumption) rfl (by omega) dX9_add_98 ?_
        refine jj_iinc F dX9_add_99 rfl (by first | exact iinc1 _ | rfl) (by rw [hnl]; decide) ?_
        dsimp only [lq_st, lq_clr, lq_no]
        refine jj_goto F (tgt := 61) dX9_add_102 (by decide) ?_
        rw [fl_put ?_]
        · exact ih
        · show _ = (if M.1 480 i = nI u then nI 0 else M.1 486 i)
          first
          | (have z : M.1 480 i = nI u := h84; rw [if_pos z]; done)
          | (have z : ¬ M.1 480 i = nI u := h84; rw [if_neg z]; done)
  have l1 : ∀ i, i ≤ 256 → JJ Z (0, 0) ((wL M 487 (lws (setC C0 (a_n a) (fun d => S d && !(decide (d < i) && clo (a_lk a) u d)))))) 3 [some (.ref ((zE Z).2.2 478)), some (.int (nI so)), some (.int (nI u)), some (.int (nI la)), some (.int (nI co)), some (.int (nI fa)), some (.int (nI i))] [] := by
    refine jj_loop (256) ?_ ?_
    · refine jj_iload F dX9_add_3 rfl ?_
      refine jj_sipush F (v := nI 256) dX9_add_5 (by decide) ?_
      refine jj_icmp_ge F (tgt := 58) dX9_add_8 (by decide) (fun _ => ?_) (fun h9 => absurd (nI_le (by omega) (by omega)) h9)
      refine jj_iconst F (v := nI 0) dX9_add_58 (by decide) ?_
      refine jj_istore F dX9_add_59 (by rw [hnl]; decide) ?_
      dsimp only [lq_st, lq_clr, lq_no]
      rw [cs_end hlk]
      refine jj_eqM (fl_0 (wL M 487 (lws (setC C0 (a_n a) (fun d => S d && !clo (a_lk a) u d)))) 486 (fun k => if M.1 480 k = nI u then nI 0 else M.1 486 k)) ?_
      exact l2 0 (by omega)
    · intro i hi ih
      refine jj_iload F dX9_add_3 rfl ?_
      refine jj_sipush F (v := nI 256) dX9_add_5 (by decide) ?_
      refine jj_icmp_ge F (tgt := 58) dX9_add_8 (by decide) (fun h9 => absurd h9 (nI_ge (by omega) (by omega))) (fun _ => ?_)
      refine jj_aload_n F dX9_add_11 rfl ?_
      refine jj_iload_n F dX9_add_12 rfl ?_
      refine jj_iload F dX9_add_13 rfl ?_
      refine jj_callVi (na := 2) F (c_X9_isClosed (M := (wL M 487 (lws (setC C0 (a_n a) (fun d => S d && !(decide (d < i) && clo (a_lk a) u d)))))) (us := fun j => (lkD (a_lk a) j).1) (fa := fun j => (lkD (a_lk a) j).2.1) (la := fun j => (lkD (a_lk a) j).2.2.1) (x := nI u) hll hlk.1 hmlh hi) (gl_V mk_X9_170 vw_X9_isClosed) rfl rfl rfl (by decide +kernel) ⟨Nat.le_of_ble_eq_true rfl, Nat.le_of_ble_eq_true rfl⟩ kM rfl rfl rfl (Nat.le_of_ble_eq_true rfl) ⟨Nat.le_of_ble_eq_true rfl, Nat.le_of_ble_eq_true rfl⟩ dX9_add_15 (fun r15 M15 hp15 => ?_)
      obtain ⟨rfl, rfl⟩ := symm2 hp15
      rw [show exB (a_lk a).length (fun j => !decide ((wL M 487 (lws (setC C0 (a_n a) (fun d => S d && !(decide (d < i) && clo (a_lk a) u d))))).1 488 j = nI u) && rect (lkD (a_lk a) j).2.1 (lkD (a_lk a) j).2.2.1 i) = clo (a_lk a) u i from clo_ex hM.2.1 (by omega)]
      refine jj_if_eq F (tgt := 52) dX9_add_18 (by decide) (fun h18 => ?_) (fun h18 => ?_)
      · refine jj_iinc F dX9_add_52 rfl (by first | exact iinc1 _ | rfl) (by rw [hnl]; decide) ?_
        dsimp only [lq_st, lq_clr, lq_no]
        refine jj_goto F (tgt := 3) dX9_add_55 (by decide) ?_
        first
        | (have z := van_f h18; rw [cs_no (S := S) z] at ih; exact ih)
        | (have z := van_t h18; rw [wL_wL, wL_s, lws_sub hi (cs_sub z)]; exact ih)
      · refine jj_aload_n F dX9_add_21 rfl ?_
        refine jj_getr F g35 (by assumption) (by rfl) dX9_add_22 ?_
        refine jj_iconst F (v := nI 4) dX9_add_25 (by decide) ?_
        refine jj_aload_n F dX9_add_26 rfl ?_
        refine jj_geti F g95 (by assumption) (by rfl) dX9_add_27 ?_
        refine jj_topi hn ?_
        refine jj_imul F dX9_add_30 ?_
        rw [pk_mul]
        refine jj_iload F dX9_add_31 rfl ?_
        refine jj_bipush F (v := nI 64) dX9_add_33 (by decide) ?_
        refine jj_idiv F dX9_add_35 (by first | decide | assumption) ?_
        rw [show nI i / nI 64 = nI (i / 64) from pk_div (by omega) (by omega) (by omega)]
        refine jj_iadd F dX9_add_36 ?_
        rw [nI_add]
        refine jj_dup2 F dX9_add_37 rfl rfl ?_
        refine jj_lald F (by assumption) rfl (by omega) dX9_add_38 ?_
        refine jj_lconst F (v := lN 1) dX9_add_39 (by decide) ?_
        refine jj_iload F dX9_add_40 rfl ?_
        refine jj_bipush F (v := nI 64) dX9_add_42 (by decide) ?_
        refine jj_irem F dX9_add_44 (by first | decide | assumption) ?_
        rw [show nI i - nI i / nI 64 * nI 64 = nI (i % 64) from pk_rem (by omega) (by omega) (by omega)]
        refine jj_lshl F dX9_add_45 ?_
        refine jj_ldc2 F (v := -1) dX9_add_46 (F.hts _ (List.mem_cons_of_mem _ (gl_tb (by decide +kernel) rfl))) ?_
        refine jj_lxor F dX9_add_49 ?_
        refine jj_land F dX9_add_50 ?_
        refine jj_last F (by assumption) rfl (by omega) dX9_add_51 ?_
        refine jj_iinc F dX9_add_52 rfl (by first | exact iinc1 _ | rfl) (by rw [hnl]; decide) ?_
        dsimp only [lq_st, lq_clr, lq_no]
        refine jj_goto F (tgt := 3) dX9_add_55 (by decide) ?_
        first
        | (have z := van_f h18; rw [cs_no (S := S) z] at ih; exact ih)
        | (have z := van_t h18; rw [wL_wL, wL_s, lws_sub hi (cs_sub z)]; exact ih)
  refine jj_iconst F (v := nI 0) dX9_add_0 (by decide) ?_
  refine jj_istore F dX9_add_1 (by rw [hnl]; decide) ?_
  dsimp only [lq_st, lq_clr, lq_no]
  refine jj_eqM ?_ (l1 0 (by omega))
  rw [cs_0, ← hC9, wL_same]
