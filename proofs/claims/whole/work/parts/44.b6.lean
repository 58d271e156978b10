/-- an operation begun -/
def BegF (M M2 : Mm) (n u : Nat) (f : Nat → Int32) : Prop := M2.2 = M.2 ∧ M2.1 5 1 = nI (n + 1) ∧ M2.1 5 2 = M.1 5 2 ∧ (∀ i, i < n → ∀ b, b < 7 → M2.1 (7 + 3 * i) b = M.1 (7 + 3 * i) b) ∧ (∀ i, i < n → M2.1 (7 + 3 * i) 7 = if M.1 (7 + 3 * i) 1 = nI u then nI 0 else M.1 (7 + 3 * i) 7) ∧ (∀ b, b < 6 → M2.1 (7 + 3 * n) b = f b) ∧ M2.1 (7 + 3 * n) 6 = nI 1 ∧ M2.1 (7 + 3 * n) 7 = nI 0 ∧ ∀ x, x ≠ 5 → (∀ i, i ≤ n → x ≠ 7 + 3 * i) → M2.1 x = M.1 x
theorem BegF_mk {M : Mm} {n u la : Nat} {so t : Int32} : BegF M (wA (wA (fam 7 3 n (fgF M (nI u)) M) 5 (upd (M.1 5) 1 (nI (n + 1)))) (7 + 3 * n) (opN so (nI u) (nI la) t)) n u (opN so (nI u) (nI la) t) := by
  refine ⟨rfl, ?_, ?_, fun i hi b hb => ?_, fun i hi => ?_, fun b _ => by rw [wA_1s], by rw [wA_1s]; rfl, by rw [wA_1s]; rfl, fun x h1 h2 => ?_⟩
  · rw [wA_n (by omega), wA_1s, upd_k]
  · rw [wA_n (by omega), wA_1s, upd_o (by decide)]
  · rw [wA_n (by omega), wA_n (by omega), fam_in (by omega) hi]
    unfold fgF
    split
    · rw [upd_o (by omega)]
    · rfl
  · rw [wA_n (by omega), wA_n (by omega), fam_in (by omega) hi]
    unfold fgF
    split
    · rw [upd_k]
    · rfl
  · rw [wA_n (h2 n (Nat.le_refl _)), wA_n h1, fam_out (fun i hi => h2 i (by omega))]
theorem BegF_put {M M2 : Mm} {n u c : Nat} {f : Nat → Int32} {v : Int32} (h : BegF M M2 n u f) (hc : c < 6) : BegF M (wA M2 (7 + 3 * n) (upd (M2.1 (7 + 3 * n)) c v)) n u (upd f c v) := by
  obtain ⟨b0, b1, b2, b3, b4, b5, b6, b7, b8⟩ := h
  refine ⟨b0, by rw [wA_n (by omega)]; exact b1, by rw [wA_n (by omega)]; exact b2, fun i hi b hb => by rw [wA_n (by omega)]; exact b3 i hi b hb, fun i hi => by rw [wA_n (by omega)]; exact b4 i hi, fun b hb => ?_, by rw [wA_1s, upd_o (by omega)]; exact b6, by rw [wA_1s, upd_o (by omega)]; exact b7, fun x h1 h2 => by rw [wA_n (h2 n (Nat.le_refl _))]; exact b8 x h1 h2⟩
  rw [wA_1s]
  by_cases q : b = c
  · rw [q, upd_k, upd_k]
  · rw [upd_o q, upd_o q]; exact b5 b hb
theorem BegF_f {M M2 : Mm} {n u : Nat} {f g : Nat → Int32} (h : BegF M M2 n u f) (hf : ∀ b, b < 6 → f b = g b) : BegF M M2 n u g := by
  obtain ⟨b0, b1, b2, b3, b4, b5, b6, b7, b8⟩ := h
  exact ⟨b0, b1, b2, b3, b4, fun b hb => (b5 b hb).trans (hf b hb), b6, b7, b8⟩
theorem opF_st {so u la co fa t : Nat} : ∀ b, b < 6 → upd (upd (opN (nI so) (nI u) (nI la) (nI t)) 3 (nI co)) 4 (nI fa) b = opF so u la co fa t b := fun b hb => by
  rcases (show b = 0 ∨ b = 1 ∨ b = 2 ∨ b = 3 ∨ b = 4 ∨ b = 5 by omega) with rfl | rfl | rfl | rfl | rfl | rfl <;> rfl
theorem opF_er {so u la co t : Nat} : ∀ b, b < 6 → upd (opN (nI so) (nI u) (nI la) (nI t)) 3 (nI co) b = opF so u la co 0 t b := fun b hb => by
  rcases (show b = 0 ∨ b = 1 ∨ b = 2 ∨ b = 3 ∨ b = 4 ∨ b = 5 by omega) with rfl | rfl | rfl | rfl | rfl | rfl <;> rfl
theorem RelP_beg {M M2 M3 : Mm} {a : Ab} {W u ln : Nat} {f : Nat → Int32} {S : Nat → Bool} (hB : RelB M a W) (h60 : a_n a < 60) (hf : opOk (a_t a) f) (h : BegF M M2 (a_n a) u f) (hcn : M3.1 (7 + 3 * a_n a + 1 + 1) = rowsOf S) (hot : ∀ x, x ≠ 1 → x ≠ 454 → x ≠ 456 → x ≠ 457 → x ≠ 459 → x ≠ 7 + 3 * a_n a + 1 + 1 → M3.1 x = M2.1 x) (hT : RelT M3 (addA a f u S ln)) (hR : RelR M3) : RelP M3 (addA a f u S ln) W := by
  obtain ⟨b0, b1, b2, b3, b4, b5, b6, b7, b8⟩ := h
  have h60' : ∀ i, i < a_n a → i < 60 := fun i hi => by omega
  exact RelP_add hB h60 hf (by rw [hot 0 (by omega) (by omega) (by omega) (by omega) (by omega) (by omega), b8 0 (by omega) (fun i hi => by omega)]) (by rw [hot 5 (by omega) (by omega) (by omega) (by omega) (by omega) (by omega)]; exact b1) (by rw [hot 5 (by omega) (by omega) (by omega) (by omega) (by omega) (by omega)]; exact b2) (fun i hi b hb => by rw [hot _ (by omega) (by omega) (by omega) (by omega) (by omega) (by omega)]; exact b3 i hi b hb) (fun i hi => by rw [hot _ (by omega) (by omega) (by omega) (by omega) (by omega) (by omega)]; exact b4 i hi) (fun b hb => by rw [hot _ (by omega) (by omega) (by omega) (by omega) (by omega) (by omega)]; exact b5 b hb) (by rw [hot _ (by omega) (by omega) (by omega) (by omega) (by omega) (by omega)]; exact b6) (by rw [hot _ (by omega) (by omega) (by omega) (by omega) (by omega) (by omega)]; exact b7) (fun i hi hn => by rw [hot _ (by omega) (by omega) (by omega) (by omega) (by omega) (by omega), b8 _ (by omega) (fun i hi => by omega)]) hcn (fun x hx => by rw [hot _ (by omega) (by omega) (by omega) (by omega) (by omega) (by omega), b8 _ (by omega) (fun i hi => by omega)]) hT hR
theorem bt_pv {a : Ab} {s : Ps} (hs : pok s) (h : psE s (pvA a)) (hp : okP a = true) : (pvA a).1 / 2 < 6 ∧ s.1 / 2 = (pvA a).1 / 2 ∧ drS (fun j => s.2.2 (2 * j)) (fun j => s.2.2 (2 * j + 1)) ((pvA a).1 / 2) = dwA a := by
  obtain ⟨e1, e2⟩ := rd_cells h hp
  have e3 : s.1 / 2 = (pvA a).1 / 2 := by omega
  exact ⟨by have := hs.1; omega, e3, by rw [← e3]; exact e2⟩
theorem csz_of {M : Mm} {a : Ab} {W k : Nat} (h : RelB M a W) (hk : k < a_n a) : M.1 (7 + 3 * k + 1 + 1) = rowsOf (a_C a k) := by
  obtain ⟨⟨o1, -, -, -, -, -, -, Cb, o8, o9⟩, -⟩ := h
  rw [o8 k (by omega), o9 k hk]
set_option maxRecDepth 100000 in
set_option maxHeartbeats 1000000 in
theorem b_stroke_0 {l : Launch} {E : Ee} {M : Mm} {a : Ab} {W : Nat} (hB : RelB M a W) {u la co fa9 : Nat} (hu : u < 5) (hla : la < 3) (h1 : 1 ≤ co) (h9 : co ≤ 9) (hf9 : fa9 ≤ 999) (hok9 : okP a = true) (h60n : a_n a < 60) : CtI l E yX8_stroke (.code yX8_stroke cX8_stroke 6 (some .int) :: gl) ({ frames := 5, cells := 0, slots := 0, locals := 115 } : Room) M [.ref (E.2.2 0), .int (nI u), .int (nI la), .int (nI co), .int (nI fa9)] 0 0 (fun r M2 => r = nI (csz (fun d => dwA a d && !clo (a_lk a) u d)) ∧ RelB M2 (stA a 0 u la co fa9) W) := by
  refine ctI_of (L0 := [some (.ref (E.2.2 0)), some (.int (nI u)), some (.int (nI la)), some (.int (nI co)), some (.int (nI fa9)), none]) (by decide) rfl (Nat.le_of_ble_eq_true rfl) rfl ?_
  intro Z hl hE hnl F ret
  subst hE
  have in_X4 : ∀ w ∈ u_ws RX4 TX4 9, w ∈ (.code yX8_stroke cX8_stroke 6 (some .int) :: gl) := fun w h => List.mem_cons_of_mem _ (lay_X4 w h)
  have in_X8 : ∀ w ∈ u_ws RX8 TX8 9, w ∈ (.code yX8_stroke cX8_stroke 6 (some .int) :: gl) := fun w h => List.mem_cons_of_mem _ (lay_X8 w h)
  have g19 : FG Z 19 8 1 := fg_mk F (C := RX8) (T := TX8) (N := 9) in_X8 rfl (by decide) rfl (List.mem_cons_of_mem _ fk_X8_19)
  have g60 : FG Z 60 8 8 := fg_mk F (C := RX8) (T := TX8) (N := 9) in_X8 rfl (by decide) rfl (List.mem_cons_of_mem _ fk_X8_60)
  have g140 : FG Z 140 4 8 := fg_mk F (C := RX4) (T := TX4) (N := 9) in_X4 rfl (by decide) rfl (List.mem_cons_of_mem _ fk_X8_140)
  have p128 : FP Z 128 4 3 .int := fp_mk F (C := RX4) (T := TX4) (N := 9) in_X4 tyX4_ok nmX4 rfl (by decide) rfl (List.mem_cons_of_mem _ fk_X8_128) rfl (by decide +kernel)
  have p133 : FP Z 133 4 4 .int := fp_mk F (C := RX4) (T := TX4) (N := 9) in_X4 tyX4_ok nmX4 rfl (by decide) rfl (List.mem_cons_of_mem _ fk_X8_133) rfl (by decide +kernel)
  obtain ⟨hO, hL, hU, hK, hS, hT, hR0⟩ := id hB
  obtain ⟨h60, ht, htk, hn, hop, hac, hopk, Cb, hC, hCb⟩ := id hO
  obtain ⟨own, en, fa, la9, l1, hA, hp⟩ := id hL
  obtain ⟨s1, s2, s3, s4⟩ := id hS
  obtain ⟨S0, hS0⟩ := id hR0.1
  obtain ⟨R, Q, q, hR, hQ, hq, hok⟩ := id hR0.2
  have kb := kd_B
  have kl := kd_Log
  have ke := kd_ents
  have ks := kd_sc0 sc204
  have ks1 := kd_sc1 sc204
  have ks2 := kd_sc2 sc204
  have ks3 := kd_sc3 sc204
  have ks4 := kd_sc4 sc204
  have kt := kd_sc0 sc329
  have kt3 := kd_sc3 sc329
  have kp := kd_PT
  have kL := kd_Ls
  have cs8 := cs_scr
  have k58 := kd_458
  have k59 := kd_459
  have kr := kd_Reg
  have km := kd_marks
  have kc := kd_codes
  have k3 := kd_cols
  have k4 := kd_prows
  have kar := kd_areas
  have kow := kd_owners
  have ken := kd_ends
  have kq := kd_queue
  have kt1 := kd_sc1 sc329
  have kt2 := kd_sc2 sc329
  refine jj_iload_n F dX8_stroke_0 rfl ?_
  refine jj_callSv (na := 1) F (c_X8_refuseWrongUser hu) (gl_S mk_X8_106 vw_X8_refuseWrongUser) rfl rfl rfl (by decide +kernel) ⟨Nat.le_of_ble_eq_true rfl, Nat.le_of_ble_eq_true rfl⟩ rfl rfl (Nat.le_of_ble_eq_true rfl) ⟨Nat.le_of_ble_eq_true rfl, Nat.le_of_ble_eq_true rfl⟩ dX8_stroke_1 (fun M1 hp1 => ?_)
  obtain rfl := hp1.symm
  refine jj_iload_n F dX8_stroke_4 rfl ?_
  refine jj_callSv (na := 1) F (c_X8_refuseWrongLayer hla) (gl_S mk_X8_110 vw_X8_refuseWrongLayer) rfl rfl rfl (by decide +kernel) ⟨Nat.le_of_ble_eq_true rfl, Nat.le_of_ble_eq_true rfl⟩ rfl rfl (Nat.le_of_ble_eq_true rfl) ⟨Nat.le_of_ble_eq_true rfl, Nat.le_of_ble_eq_true rfl⟩ dX8_stroke_5 (fun M5 hp5 => ?_)
  obtain rfl := hp5.symm
  refine jj_iload_n F dX8_stroke_8 rfl ?_
  refine jj_callSv (na := 1) F (c_X8_refuseWrongColor h1 h9) (gl_S mk_X8_113 vw_X8_refuseWrongColor) rfl rfl rfl (by decide +kernel) ⟨Nat.le_of_ble_eq_true rfl, Nat.le_of_ble_eq_true rfl⟩ rfl rfl (Nat.le_of_ble_eq_true rfl) ⟨Nat.le_of_ble_eq_true rfl, Nat.le_of_ble_eq_true rfl⟩ dX8_stroke_9 (fun M9 hp9 => ?_)
  obtain rfl := hp9.symm
  refine jj_iload F dX8_stroke_12 rfl ?_
  refine jj_if_lt F (tgt := 25) dX8_stroke_14 (by decide) (fun h9 => absurd h9 (nI_nlt (b := 0) (Nat.zero_le _) (by omega))) (fun _ => ?_)
  refine jj_iload F dX8_stroke_17 rfl ?_
  refine jj_sipush F (v := nI 999) dX8_stroke_19 (by decide) ?_
  refine jj_icmp_le F (tgt := 35) dX8_stroke_22 (by decide) (fun _ => ?_) (fun h9 => absurd (nI_le (b := 999) (by omega) (by omega)) h9)
  refine jj_aload_n F dX8_stroke_35 rfl ?_
  refine jj_callVv (na := 0) F (c_X8_refuseWrongPath hB hok9) (gl_V mk_X8_118 vw_X8_refuseWrongPath) rfl rfl rfl (by decide +kernel) ⟨Nat.le_of_ble_eq_true rfl, Nat.le_of_ble_eq_true rfl⟩ (by assumption) rfl rfl rfl (Nat.le_of_ble_eq_true rfl) ⟨Nat.le_of_ble_eq_true rfl, Nat.le_of_ble_eq_true rfl⟩ dX8_stroke_36 (fun MP hpP => ?_)
  obtain ⟨ps, rfl, hps, hpe⟩ := hpP
  have hBP := RelB_pt hB hps
  obtain ⟨bp1, bp2, bp3⟩ := bt_pv hps hpe hok9
  refine jj_aload_n F dX8_stroke_39 rfl ?_
  have hnP : (ptM M ps).1 5 1 = nI (a_n a) := hBP.1.2.2.2.1
  have htP : (ptM M ps).1 0 8 = nI (a_t a) := hBP.1.2.2.1
  refine jj_callVv (na := 0) F (c_X8_refuseFullLog (n := a_n a) hnP h60n) (gl_V mk_X8_121 vw_X8_refuseFullLog) rfl rfl rfl (by decide +kernel) ⟨Nat.le_of_ble_eq_true rfl, Nat.le_of_ble_eq_true rfl⟩ (by assumption) rfl rfl rfl (Nat.le_of_ble_eq_true rfl) ⟨Nat.le_of_ble_eq_true rfl, Nat.le_of_ble_eq_true rfl⟩ dX8_stroke_40 (fun M40 hp40 => ?_)
  obtain rfl := hp40.symm
  refine jj_aload_n F dX8_stroke_43 rfl ?_
  refine jj_getr F g19 (by assumption) (by rfl) dX8_stroke_44 ?_
  refine jj_iconst F (v := nI 0) dX8_stroke_47 (by decide) ?_
  refine jj_iload_n F dX8_stroke_48 rfl ?_
  refine jj_iload_n F dX8_stroke_49 rfl ?_
  refine jj_aload_n F dX8_stroke_50 rfl ?_
  refine jj_geti F g60 (by assumption) (by rfl) dX8_stroke_51 ?_
  rw [htP]
  refine jj_callVr (na := 4) F (c_X2_begin (so := nI 0) (ow := nI u) (la := nI la) (ti := nI (a_t a)) hnP h60n) (gl_V mk_X8_124 vw_X2_begin) rfl rfl rfl (by decide +kernel) ⟨Nat.le_of_ble_eq_true rfl, Nat.le_of_ble_eq_true rfl⟩ (by assumption) rfl rfl rfl (Nat.le_of_ble_eq_true rfl) ⟨Nat.le_of_ble_eq_true rfl, Nat.le_of_ble_eq_true rfl⟩ dX8_stroke_54 (fun M54 r54 hp54 => ?_)
  obtain ⟨rfl, rfl⟩ := symm2 (Prod.mk.inj hp54)
  have hbeg := BegF_mk (M := (ptM M ps)) (n := a_n a) (u := u) (la := la) (so := nI 0) (t := nI (a_t a))
  have kon := kd_op (a_n a) h60n
  have csn := cs_op (a_n a) h60n
  generalize wA (wA (fam 7 3 (a_n a) (fgF (ptM M ps) (nI u)) (ptM M ps)) 5 (upd ((ptM M ps).1 5) 1 (nI (a_n a + 1)))) (7 + 3 * a_n a) (opN (nI 0) (nI u) (nI la) (nI (a_t a))) = MB at hbeg ⊢
  refine jj_astore F dX8_stroke_57 (by rw [hnl]; decide) ?_
  dsimp only [lq_st, lq_clr, lq_no]
  refine jj_aload F dX8_stroke_59 rfl ?_
  refine jj_iload_n F dX8_stroke_61 rfl ?_
  refine jj_puti F p128 (by assumption) (by rfl) dX8_stroke_62 ?_
  have hbeg := BegF_put (c := 3) (v := nI co) hbeg (by omega)
  generalize wA MB (7 + 3 * a_n a) (upd (MB.1 (7 + 3 * a_n a)) 3 (nI co)) = MC at hbeg ⊢
  refine jj_aload F dX8_stroke_65 rfl ?_
  refine jj_iload F dX8_stroke_67 rfl ?_
  refine jj_puti F p133 (by assumption) (by rfl) dX8_stroke_69 ?_
  have hbeg := BegF_put (c := 4) (v := nI fa9) hbeg (by omega)
  generalize wA MC (7 + 3 * a_n a) (upd (MC.1 (7 + 3 * a_n a)) 4 (nI fa9)) = MD at hbeg ⊢
  refine jj_aload_n F dX8_stroke_72 rfl ?_
  refine jj_aload F dX8_stroke_73 rfl ?_
  have hbeg := BegF_f hbeg (opF_st (so := 0) (u := u) (la := la) (co := co) (fa := fa9) (t := a_t a))
  have hopk9 : opOk (a_t a) (opF 0 u la co fa9 (a_t a)) := opOk_F (by omega) hu hla (by omega) (by omega) (by omega) (by omega)
  have hoB : ∀ x, x ≠ 5 → (∀ i, i ≤ a_n a → x ≠ 7 + 3 * i) → MD.1 x = (ptM M ps).1 x := hbeg.2.2.2.2.2.2.2.2
  have hA9 : ∀ i, i < 6 → MD.1 (191 + 2 * i + 1) = rowsOf (rect (fa i) (la9 i)) := fun i hi => by rw [hoB _ (by omega) (fun j hj => by omega)]; unfold ptM; rw [wA_n (by omega), wA_n (by omega), wA_n (by omega)]; exact hA i hi
  have hl9 : ∀ j, j < 6 → MD.1 189 j = nI (own j) ∧ MD.1 190 j = nI (en j) ∧ own j < 5 ∧ en j < 200000 ∧ fa j < 257 ∧ la9 j < 257 := fun j hj => by rw [hoB 189 (by omega) (fun j hj => by omega), hoB 190 (by omega) (fun j hj => by omega)]; unfold ptM; rw [wA_n (by omega), wA_n (by omega), wA_n (by omega), wA_n (by omega), wA_n (by omega), wA_n (by omega)]; exact l1 j hj
  have h39 : MD.1 3 = fun j => nI (ps.2.2 (2 * j)) := by rw [hoB 3 (by omega) (fun j hj => by omega)]; exact ptM_3 M ps
  have h49 : MD.1 4 = fun j => nI (ps.2.2 (2 * j + 1)) := by rw [hoB 4 (by omega) (fun j hj => by omega)]; unfold ptM; rw [wA_s]
  have h14 : MD.1 1 4 = nI ((pvA a).1 / 2) := by rw [hoB 1 (by omega) (fun j hj => by omega), ptM_1, ← bp2]; rfl
  have h08 : MD.1 0 8 = nI (a_t a) := by rw [hoB 0 (by omega) (fun j hj => by omega)]; exact htP
  have h71 : MD.1 (7 + 3 * a_n a) 1 = nI u := hbeg.2.2.2.2.2.1 1 (by omega)
  refine jj_callVv (na := 1) F (c_X8_takeCellsFromBuffer (k := a_n a) (p := ((pvA a).1 / 2)) (A := fun i => rect (fa i) (la9 i)) h60n h39 h49 (fun j => hps.2.2 _) (fun j => hps.2.2 _) h14 bp1 hA9) (gl_V mk_X8_136 vw_X8_takeCellsFromBuffer) rfl rfl rfl (by decide +kernel) ⟨Nat.le_of_ble_eq_true rfl, Nat.le_of_ble_eq_true rfl⟩ (by assumption) rfl rfl rfl (Nat.le_of_ble_eq_true rfl) ⟨Nat.le_of_ble_eq_true rfl, Nat.le_of_ble_eq_true rfl⟩ dX8_stroke_75 (fun MT hpT => ?_)
  have hMT : RelP MT (addA a (opF 0 u la co fa9 (a_t a)) u (fun d => dwA a d && !clo (a_lk a) u d) 0) W := by
    rw [hpT]
    have e8 : (wA (wA MD (7 + 3 * a_n a + 1 + 1) (rowsOf (drS (fun j => ps.2.2 (2 * j)) (fun j => ps.2.2 (2 * j + 1)) ((pvA a).1 / 2)))) 1 (upd (MD.1 1) 1 (nI 0))).1 0 8 = nI (a_t a) := by rw [wA_n (by omega), wA_n (by omega)]; exact h08
    have e1 : (wA (wA MD (7 + 3 * a_n a + 1 + 1) (rowsOf (drS (fun j => ps.2.2 (2 * j)) (fun j => ps.2.2 (2 * j + 1)) ((pvA a).1 / 2)))) 1 (upd (MD.1 1) 1 (nI 0))).1 (7 + 3 * a_n a) 1 = nI u := by rw [wA_n (by omega), wA_n (by omega)]; exact h71
    have ecl : ∀ c, cloF (wA (wA MD (7 + 3 * a_n a + 1 + 1) (rowsOf (drS (fun j => ps.2.2 (2 * j)) (fun j => ps.2.2 (2 * j + 1)) ((pvA a).1 / 2)))) 1 (upd (MD.1 1) 1 (nI 0))) (fun i => rect (fa i) (la9 i)) (nI (a_t a)) (nI u) 6 c = clo (a_lk a) u c := fun c => cloF_eq (by omega) (by omega) (fun j hj => by rw [wA_n (by omega), wA_n (by omega), wA_n (by omega), wA_n (by omega)]; exact hl9 j hj) hp c
    rw [e8, e1]
    refine RelP_beg hBP h60n hopk9 hbeg ?_ (fun x h1 h2 h3 h4 h5 h6 => ?_) ⟨?_, Nat.zero_le _, fun i hi => absurd hi (Nat.not_lt_zero i), ps.2.2, ?_, ?_, hps.2.2, fun x hx => ?_, ?_⟩ ?_
    · rw [wA_s]
      congr 1
      funext c
      rw [ecl c, bp3]
    · rw [wA_n h6, wA_n h5, wA_n h1, wA_n h6]
    · rw [wA_n (by omega), wA_n (by omega), wA_1s, upd_k]
      rfl
    · rw [wA_n (by omega), wA_n (by omega), wA_n (by omega), wA_n (by omega)]; exact h39
    · rw [wA_n (by omega), wA_n (by omega), wA_n (by omega), wA_n (by omega)]; exact h49
    · rw [wA_n (by omega), wA_n (by omega), wA_n (by omega), wA_n (by omega), hoB x (by omega) (fun j hj => by omega)]; exact hBP.2.2.2.2.2.1.2.2.2.choose_spec.2.2.2.1 x hx
    · exact hbeg.1.trans hBP.2.2.2.2.2.1.2.2.2.choose_spec.2.2.2.2
    · obtain ⟨-, R9, Q9, q9, r2, r3, r4, r5⟩ := hBP.2.2.2.2.2.2
      have r2 := r2
      exact ⟨⟨_, by rw [wA_n (by omega), wA_s]⟩, R9, Q9, q9, by rw [wA_n (by omega), wA_n (by omega), wA_n (by omega), wA_n (by omega), hoB 456 (by omega) (fun j hj => by omega)]; exact r2, by rw [wA_n (by omega), wA_n (by omega), wA_n (by omega), wA_n (by omega), hoB 457 (by omega) (fun j hj => by omega)]; exact r3, by rw [wA_n (by omega), wA_n (by omega), wA_n (by omega), wA_n (by omega), hoB 454 (by omega) (fun j hj => by omega)]; exact r4, r5⟩
  clear hpT
  refine jj_aload_n F dX8_stroke_78 rfl ?_
  refine jj_callVv (na := 0) F (b_show (a := stA a 0 u la co fa9) hMT) (gl_V mk_X8_75 vw_X8_showNow) rfl rfl rfl (by decide +kernel) ⟨Nat.le_of_ble_eq_true rfl, Nat.le_of_ble_eq_true rfl⟩ (by assumption) rfl rfl rfl (Nat.le_of_ble_eq_true rfl) ⟨Nat.le_of_ble_eq_true rfl, Nat.le_of_ble_eq_true rfl⟩ dX8_stroke_79 (fun MS hS9 => ?_)
  refine jj_aload F dX8_stroke_82 rfl ?_
  refine jj_getr F g140 (by assumption) (by rfl) dX8_stroke_84 ?_
  refine jj_callVi (na := 0) F (c_X0_size (S := fun d => dwA a d && !clo (a_lk a) u d) csn ((csz_of hS9 (Nat.lt_succ_self _)).trans (congrArg rowsOf (if_pos rfl)))) (gl_V mk_X8_143 vw_X0_size) rfl rfl rfl (by decide +kernel) ⟨Nat.le_of_ble_eq_true rfl, Nat.le_of_ble_eq_true rfl⟩ csn.1 rfl rfl rfl (Nat.le_of_ble_eq_true rfl) ⟨Nat.le_of_ble_eq_true rfl, Nat.le_of_ble_eq_true rfl⟩ dX8_stroke_87 (fun r87 M87 hp87 => ?_)
  obtain ⟨rfl, rfl⟩ := symm2 hp87
  refine ret _ _ _ _ dX8_stroke_90 (by first | rfl | exact nar_z (by first | exact Or.inl rfl | exact Or.inr rfl | exact b2i_01 _ | assumption)) ?_
  exact ⟨rfl, hS9⟩
set_option maxRecDepth 100000 in
set_option maxHeartbeats 1000000 in
theorem b_erase_0 {l : Launch} {E : Ee} {M : Mm} {a : Ab} {W : Nat} (hB : RelB M a W) {u la k : Nat} (hu : u < 5) (hla : la < 3) (hk3 : k < 3) (hok9 : okP a = true) (h60n : a_n a < 60) : CtI l E yX8_erase (.code yX8_erase cX8_erase 5 (some .int) :: gl) ({ frames := 5, cells := 0, slots := 0, locals := 116 } : Room) M [.ref (E.2.2 0), .int (nI u), .int (nI la), .int (nI k)] 0 0 (fun r M2 => r = nI (dfC (clA a) (clA (stA a 2 u la k 0))) ∧ RelB M2 (stA a 2 u la k 0) W) := by
  refine ctI_of (L0 := [some (.ref (E.2.2 0)), some (.int (nI u)), some (.int (nI la)), some (.int (nI k)), none]) (by decide) rfl (Nat.le_of_ble_eq_true rfl) rfl ?_
  intro Z hl hE hnl F ret
  subst hE
  have in_X2 : ∀ w ∈ u_ws RX2 TX2 3, w ∈ (.code yX8_erase cX8_erase 5 (some .int) :: gl) := fun w h => List.mem_cons_of_mem _ (lay_X2 w h)
  have in_X4 : ∀ w ∈ u_ws RX4 TX4 9, w ∈ (.code yX8_erase cX8_erase 5 (some .int) :: gl) := fun w h => List.mem_cons_of_mem _ (lay_X4 w h)
  have in_X8 : ∀ w ∈ u_ws RX8 TX8 9, w ∈ (.code yX8_erase cX8_erase 5 (some .int) :: gl) := fun w h => List.mem_cons_of_mem _ (lay_X8 w h)
  have g19 : FG Z 19 8 1 := fg_mk F (C := RX8) (T := TX8) (N := 9) in_X8 rfl (by decide) rfl (List.mem_cons_of_mem _ fk_X8_19)
  have g60 : FG Z 60 8 8 := fg_mk F (C := RX8) (T := TX8) (N := 9) in_X8 rfl (by decide) rfl (List.mem_cons_of_mem _ fk_X8_60)
  have g65 : FG Z 65 2 1 := fg_mk F (C := RX2) (T := TX2) (N := 3) in_X2 rfl (by decide) rfl (List.mem_cons_of_mem _ fk_X8_65)
  have p128 : FP Z 128 4 3 .int := fp_mk F (C := RX4) (T := TX4) (N := 9) in_X4 tyX4_ok nmX4 rfl (by decide) rfl (List.mem_cons_of_mem _ fk_X8_128) rfl (by decide +kernel)
  obtain ⟨hO, hL, hU, hK, hS, hT, hR0⟩ := id hB
  obtain ⟨h60, ht, htk, hn, hop, hac, hopk, Cb, hC, hCb⟩ := id hO
  obtain ⟨own, en, fa, la9, l1, hA, hp⟩ := id hL
  obtain ⟨s1, s2, s3, s4⟩ := id hS
  obtain ⟨S0, hS0⟩ := id hR0.1
  obtain ⟨R, Q, q, hR, hQ, hq, hok⟩ := id hR0.2
  have kb := kd_B
  have kl := kd_Log
  have ke := kd_ents
  have ks := kd_sc0 sc204
  have ks1 := kd_sc1 sc204
  have ks2 := kd_sc2 sc204
  have ks3 := kd_sc3 sc204
  have ks4 := kd_sc4 sc204
  have kt := kd_sc0 sc329
  have kt3 := kd_sc3 sc329
  have kp := kd_PT
  have kL := kd_Ls
  have cs8 := cs_scr
  have k58 := kd_458
  have k59 := kd_459
  have kr := kd_Reg
  have km := kd_marks
  have kc := kd_codes
  have k3 := kd_cols
  have k4 := kd_prows
  have kar := kd_areas
  have kow := kd_owners
  have ken := kd_ends
  have kq := kd_queue
  have kt1 := kd_sc1 sc329
  have kt2 := kd_sc2 sc329
  refine jj_iload_n F dX8_erase_0 rfl ?_
  refine jj_callSv (na := 1) F (c_X8_refuseWrongUser hu) (gl_S mk_X8_106 vw_X8_refuseWrongUser) rfl rfl rfl (by decide +kernel) ⟨Nat.le_of_ble_eq_true rfl, Nat.le_of_ble_eq_true rfl⟩ rfl rfl (Nat.le_of_ble_eq_true rfl) ⟨Nat.le_of_ble_eq_true rfl, Nat.le_of_ble_eq_true rfl⟩ dX8_erase_1 (fun M1 hp1 => ?_)
  obtain rfl := hp1.symm
  refine jj_iload_n F dX8_erase_4 rfl ?_
  refine jj_callSv (na := 1) F (c_X8_refuseWrongLayer hla) (gl_S mk_X8_110 vw_X8_refuseWrongLayer) rfl rfl rfl (by decide +kernel) ⟨Nat.le_of_ble_eq_true rfl, Nat.le_of_ble_eq_true rfl⟩ rfl rfl (Nat.le_of_ble_eq_true rfl) ⟨Nat.le_of_ble_eq_true rfl, Nat.le_of_ble_eq_true rfl⟩ dX8_erase_5 (fun M5 hp5 => ?_)
  obtain rfl := hp5.symm
  refine jj_iload_n F dX8_erase_8 rfl ?_
  refine jj_if_lt F (tgt := 17) dX8_erase_9 (by decide) (fun h9 => absurd h9 (nI_nlt (b := 0) (Nat.zero_le _) (by omega))) (fun _ => ?_)
  refine jj_iload_n F dX8_erase_12 rfl ?_
  refine jj_iconst F (v := nI 2) dX8_erase_13 (by decide) ?_
  refine jj_icmp_le F (tgt := 27) dX8_erase_14 (by decide) (fun _ => ?_) (fun h9 => absurd (nI_le (b := 2) (by omega) (by omega)) h9)
  refine jj_aload_n F dX8_erase_27 rfl ?_
  refine jj_callVv (na := 0) F (c_X8_refuseWrongPath hB hok9) (gl_V mk_X8_118 vw_X8_refuseWrongPath) rfl rfl rfl (by decide +kernel) ⟨Nat.le_of_ble_eq_true rfl, Nat.le_of_ble_eq_true rfl⟩ (by assumption) rfl rfl rfl (Nat.le_of_ble_eq_true rfl) ⟨Nat.le_of_ble_eq_true rfl, Nat.le_of_ble_eq_true rfl⟩ dX8_erase_28 (fun MP hpP => ?_)
  obtain ⟨ps, rfl, hps, hpe⟩ := hpP
  have hBP := RelB_pt hB hps
  obtain ⟨bp1, bp2, bp3⟩ := bt_pv hps hpe hok9
  refine jj_aload_n F dX8_erase_31 rfl ?_
  have hnP : (ptM M ps).1 5 1 = nI (a_n a) := hBP.1.2.2.2.1
  have htP : (ptM M ps).1 0 8 = nI (a_t a) := hBP.1.2.2.1
  refine jj_callVv (na := 0) F (c_X8_refuseFullLog (n := a_n a) hnP h60n) (gl_V mk_X8_121 vw_X8_refuseFullLog) rfl rfl rfl (by decide +kernel) ⟨Nat.le_of_ble_eq_true rfl, Nat.le_of_ble_eq_true rfl⟩ (by assumption) rfl rfl rfl (Nat.le_of_ble_eq_true rfl) ⟨Nat.le_of_ble_eq_true rfl, Nat.le_of_ble_eq_true rfl⟩ dX8_erase_32 (fun M32 hp32 => ?_)
  obtain rfl := hp32.symm
  refine jj_aload_n F dX8_erase_35 rfl ?_
  refine jj_getr F g19 (by assumption) (by rfl) dX8_erase_36 ?_
  refine jj_iconst F (v := nI 2) dX8_erase_39 (by decide) ?_
  refine jj_iload_n F dX8_erase_40 rfl ?_
  refine jj_iload_n F dX8_erase_41 rfl ?_
  refine jj_aload_n F dX8_erase_42 rfl ?_
  refine jj_geti F g60 (by assumption) (by rfl) dX8_erase_43 ?_
  rw [htP]
  refine jj_callVr (na := 4) F (c_X2_begin (so := nI 2) (ow := nI u) (la := nI la) (ti := nI (a_t a)) hnP h60n) (gl_V mk_X8_124 vw_X2_begin) rfl rfl rfl (by decide +kernel) ⟨Nat.le_of_ble_eq_true rfl, Nat.le_of_ble_eq_true rfl⟩ (by assumption) rfl rfl rfl (Nat.le_of_ble_eq_true rfl) ⟨Nat.le_of_ble_eq_true rfl, Nat.le_of_ble_eq_true rfl⟩ dX8_erase_46 (fun M46 r46 hp46 => ?_)
  obtain ⟨rfl, rfl⟩ := symm2 (Prod.mk.inj hp46)
  have hbeg := BegF_mk (M := (ptM M ps)) (n := a_n a) (u := u) (la := la) (so := nI 2) (t := nI (a_t a))
  have kon := kd_op (a_n a) h60n
  have csn := cs_op (a_n a) h60n
  generalize wA (wA (fam 7 3 (a_n a) (fgF (ptM M ps) (nI u)) (ptM M ps)) 5 (upd ((ptM M ps).1 5) 1 (nI (a_n a + 1)))) (7 + 3 * a_n a) (opN (nI 2) (nI u) (nI la) (nI (a_t a))) = MB at hbeg ⊢
  refine jj_astore F dX8_erase_49 (by rw [hnl]; decide) ?_
  dsimp only [lq_st, lq_clr, lq_no]
  refine jj_aload F dX8_erase_51 rfl ?_
  refine jj_iload_n F dX8_erase_53 rfl ?_
  refine jj_puti F p128 (by assumption) (by rfl) dX8_erase_54 ?_
  have hbeg := BegF_put (c := 3) (v := nI k) hbeg (by omega)
  generalize wA MB (7 + 3 * a_n a) (upd (MB.1 (7 + 3 * a_n a)) 3 (nI k)) = MC at hbeg ⊢
  refine jj_aload_n F dX8_erase_57 rfl ?_
  refine jj_aload F dX8_erase_58 rfl ?_
  have hbeg := BegF_f hbeg (opF_er (so := 2) (u := u) (la := la) (co := k) (t := a_t a))
  have hopk9 : opOk (a_t a) (opF 2 u la k 0 (a_t a)) := opOk_F (by omega) hu hla (by omega) (by omega) (by omega) (by omega)
  have hoB : ∀ x, x ≠ 5 → (∀ i, i ≤ a_n a → x ≠ 7 + 3 * i) → MC.1 x = (ptM M ps).1 x := hbeg.2.2.2.2.2.2.2.2
  have hA9 : ∀ i, i < 6 → MC.1 (191 + 2 * i + 1) = rowsOf (rect (fa i) (la9 i)) := fun i hi => by rw [hoB _ (by omega) (fun j hj => by omega)]; unfold ptM; rw [wA_n (by omega), wA_n (by omega), wA_n (by omega)]; exact hA i hi
  have hl9 : ∀ j, j < 6 → MC.1 189 j = nI (own j) ∧ MC.1 190 j = nI (en j) ∧ own j < 5 ∧ en j < 200000 ∧ fa j < 257 ∧ la9 j < 257 := fun j hj => by rw [hoB 189 (by omega) (fun j hj => by omega), hoB 190 (by omega) (fun j hj => by omega)]; unfold ptM; rw [wA_n (by omega), wA_n (by omega), wA_n (by omega), wA_n (by omega), wA_n (by omega), wA_n (by omega)]; exact l1 j hj
  have h39 : MC.1 3 = fun j => nI (ps.2.2 (2 * j)) := by rw [hoB 3 (by omega) (fun j hj => by omega)]; exact ptM_3 M ps
  have h49 : MC.1 4 = fun j => nI (ps.2.2 (2 * j + 1)) := by rw [hoB 4 (by omega) (fun j hj => by omega)]; unfold ptM; rw [wA_s]
  have h14 : MC.1 1 4 = nI ((pvA a).1 / 2) := by rw [hoB 1 (by omega) (fun j hj => by omega), ptM_1, ← bp2]; rfl
  have h08 : MC.1 0 8 = nI (a_t a) := by rw [hoB 0 (by omega) (fun j hj => by omega)]; exact htP
  have h71 : MC.1 (7 + 3 * a_n a) 1 = nI u := hbeg.2.2.2.2.2.1 1 (by omega)
  refine jj_callVv (na := 1) F (c_X8_takeCellsFromBuffer (k := a_n a) (p := ((pvA a).1 / 2)) (A := fun i => rect (fa i) (la9 i)) h60n h39 h49 (fun j => hps.2.2 _) (fun j => hps.2.2 _) h14 bp1 hA9) (gl_V mk_X8_136 vw_X8_takeCellsFromBuffer) rfl rfl rfl (by decide +kernel) ⟨Nat.le_of_ble_eq_true rfl, Nat.le_of_ble_eq_true rfl⟩ (by assumption) rfl rfl rfl (Nat.le_of_ble_eq_true rfl) ⟨Nat.le_of_ble_eq_true rfl, Nat.le_of_ble_eq_true rfl⟩ dX8_erase_60 (fun MT hpT => ?_)
  have hMT : RelP MT (addA a (opF 2 u la k 0 (a_t a)) u (fun d => dwA a d && !clo (a_lk a) u d) 0) W := by
    rw [hpT]
    have e8 : (wA (wA MC (7 + 3 * a_n a + 1 + 1) (rowsOf (drS (fun j => ps.2.2 (2 * j)) (fun j => ps.2.2 (2 * j + 1)) ((pvA a).1 / 2)))) 1 (upd (MC.1 1) 1 (nI 0))).1 0 8 = nI (a_t a) := by rw [wA_n (by omega), wA_n (by omega)]; exact h08
    have e1 : (wA (wA MC (7 + 3 * a_n a + 1 + 1) (rowsOf (drS (fun j => ps.2.2 (2 * j)) (fun j => ps.2.2 (2 * j + 1)) ((pvA a).1 / 2)))) 1 (upd (MC.1 1) 1 (nI 0))).1 (7 + 3 * a_n a) 1 = nI u := by rw [wA_n (by omega), wA_n (by omega)]; exact h71
    have ecl : ∀ c, cloF (wA (wA MC (7 + 3 * a_n a + 1 + 1) (rowsOf (drS (fun j => ps.2.2 (2 * j)) (fun j => ps.2.2 (2 * j + 1)) ((pvA a).1 / 2)))) 1 (upd (MC.1 1) 1 (nI 0))) (fun i => rect (fa i) (la9 i)) (nI (a_t a)) (nI u) 6 c = clo (a_lk a) u c := fun c => cloF_eq (by omega) (by omega) (fun j hj => by rw [wA_n (by omega), wA_n (by omega), wA_n (by omega), wA_n (by omega)]; exact hl9 j hj) hp c
    rw [e8, e1]
    refine RelP_beg hBP h60n hopk9 hbeg ?_ (fun x h1 h2 h3 h4 h5 h6 => ?_) ⟨?_, Nat.zero_le _, fun i hi => absurd hi (Nat.not_lt_zero i), ps.2.2, ?_, ?_, hps.2.2, fun x hx => ?_, ?_⟩ ?_
    · rw [wA_s]
      congr 1
      funext c
      rw [ecl c, bp3]
    · rw [wA_n h6, wA_n h5, wA_n h1, wA_n h6]
    · rw [wA_n (by omega), wA_n (by omega), wA_1s, upd_k]
      rfl
    · rw [wA_n (by omega), wA_n (by omega), wA_n (by omega), wA_n (by omega)]; exact h39
    · rw [wA_n (by omega), wA_n (by omega), wA_n (by omega), wA_n (by omega)]; exact h49
    · rw [wA_n (by omega), wA_n (by omega), wA_n (by omega), wA_n (by omega), hoB x (by omega) (fun j hj => by omega)]; exact hBP.2.2.2.2.2.1.2.2.2.choose_spec.2.2.2.1 x hx
    · exact hbeg.1.trans hBP.2.2.2.2.2.1.2.2.2.choose_spec.2.2.2.2
    · obtain ⟨-, R9, Q9, q9, r2, r3, r4, r5⟩ := hBP.2.2.2.2.2.2
      have r2 := r2
      exact ⟨⟨_, by rw [wA_n (by omega), wA_s]⟩, R9, Q9, q9, by rw [wA_n (by omega), wA_n (by omega), wA_n (by omega), wA_n (by omega), hoB 456 (by omega) (fun j hj => by omega)]; exact r2, by rw [wA_n (by omega), wA_n (by omega), wA_n (by omega), wA_n (by omega), hoB 457 (by omega) (fun j hj => by omega)]; exact r3, by rw [wA_n (by omega), wA_n (by omega), wA_n (by omega), wA_n (by omega), hoB 454 (by omega) (fun j hj => by omega)]; exact r4, r5⟩
  clear hpT
  refine jj_aload_n F dX8_erase_63 rfl ?_
  refine jj_callVv (na := 0) F (b_show (a := stA a 2 u la k 0) hMT) (gl_V mk_X8_75 vw_X8_showNow) rfl rfl rfl (by decide +kernel) ⟨Nat.le_of_ble_eq_true rfl, Nat.le_of_ble_eq_true rfl⟩ (by assumption) rfl rfl rfl (Nat.le_of_ble_eq_true rfl) ⟨Nat.le_of_ble_eq_true rfl, Nat.le_of_ble_eq_true rfl⟩ dX8_erase_64 (fun MS hS9 => ?_)
  obtain ⟨q60, -, qtk, qn, qop, qac, -, Cs, qC, qCs⟩ := id hS9.1
  have qn : MS.1 5 1 = nI (a_n a + 1) := qn
  have qtk : MS.1 0 8 = nI (a_t a) := qtk
  refine jj_aload_n F dX8_erase_67 rfl ?_
  refine jj_aload_n F dX8_erase_68 rfl ?_
  refine jj_getr F g19 (by assumption) (by rfl) dX8_erase_69 ?_
  refine jj_geti F g65 (by assumption) (by rfl) dX8_erase_72 ?_
  rw [qn]
  refine jj_iconst F (v := nI 1) dX8_erase_75 (by decide) ?_
  refine jj_isub F dX8_erase_76 ?_
  rw [nI_pred1]
  refine jj_callVi (na := 1) F (c_X8_changedBySwitching (n := a_n a + 1) (C := Cs) qn q60 qC) (gl_V mk_X8_147 vw_X8_changedBySwitching) rfl rfl rfl (by decide +kernel) ⟨Nat.le_of_ble_eq_true rfl, Nat.le_of_ble_eq_true rfl⟩ (by assumption) rfl rfl rfl (Nat.le_of_ble_eq_true rfl) ⟨Nat.le_of_ble_eq_true rfl, Nat.le_of_ble_eq_true rfl⟩ dX8_erase_77 (fun r77 M77 hp77 => ?_)
  obtain ⟨rfl, rfl⟩ := symm2 hp77
  refine ret _ _ _ _ dX8_erase_80 (by first | rfl | exact nar_z (by first | exact Or.inl rfl | exact Or.inr rfl | exact b2i_01 _ | assumption)) ?_
  refine ⟨?_, RelB_sup hS9 q60⟩
  have hgo : ∀ i, i < a_n a + 1 → goB MS (nI (a_n a)) i = (if i = a_n a then !a_ac (stA a 2 u la k 0) i else a_ac (stA a 2 u la k 0) i) := fun i hi => goB_sw (by omega) (by omega) (qac i hi)
  rw [qtk, (shTop_eq (n := a_n a + 1) (op := a_op (stA a 2 u la k 0)) (C := a_C (stA a 2 u la k 0)) (go := fun i => if i = a_n a then !a_ac (stA a 2 u la k 0) i else a_ac (stA a 2 u la k 0) i) qop qCs hgo).2, colA_off (by rw [if_pos rfl]; show (!(if a_n a = a_n a then true else a_ac a (a_n a))) = false; rw [if_pos rfl]; rfl), dfC_sym, show MS.1 207 = clA (stA a 2 u la k 0) from hS9.2.2.2.2.1.2.2.1]
  rw [colA_cong (n := a_n a) (op := a_op (stA a 2 u la k 0)) (C := a_C (stA a 2 u la k 0)) (go := fun i => if i = a_n a then !a_ac (stA a 2 u la k 0) i else a_ac (stA a 2 u la k 0) i) (op2 := a_op a) (C2 := a_C a) (go2 := a_ac a) (fun i hi => ⟨if_neg (Nat.ne_of_lt hi), if_neg (Nat.ne_of_lt hi), (if_neg (Nat.ne_of_lt hi)).trans (if_neg (Nat.ne_of_lt hi))⟩)]
theorem fi_reach {a : Ab} {c : Nat} (hc : c < 256) (Q : Nat → Nat) : (fun d => exB (sprd (nI 0) c (fun e => decide (e < 256) && decide (clA a e = clA a c)) Q).2.2 (fun j => (sprd (nI 0) c (fun e => decide (e < 256) && decide (clA a e = clA a c)) Q).2.1 j == d)) = fiA a c := by
  funext d
  have h := (spr_spec (S := fun e => decide (e < 256) && decide (clA a e = clA a c)) (d := nI 0) (c := c) Q hc (by rw [decide_eq_true hc, decide_eq_true rfl]; rfl)).2 d
  rw [Bool.eq_iff_iff, exB_iff, fiA_t]
  rw [show (!decide (nI 0 = 0)) = false from rfl] at h
  rw [← h]
  constructor
  · rintro ⟨j, h1, h2⟩
    exact ⟨j, h1, by simpa using h2⟩
  · rintro ⟨j, h1, h2⟩
    exact ⟨j, h1, by simpa using h2⟩
set_option maxRecDepth 100000 in
set_option maxHeartbeats 1000000 in
theorem b_fill_0 {l : Launch} {E : Ee} {M : Mm} {a : Ab} {W : Nat} (hB : RelB M a W) {u la co c : Nat} (hu : u < 5) (hla : la < 3) (hc : c < 256) (h1 : 1 ≤ co) (h9 : co ≤ 9) (h60n : a_n a < 60) : CtI l E yX8_fill (.code yX8_fill cX8_fill 6 (some .int) :: gl) ({ frames := 5, cells := 0, slots := 0, locals := 115 } : Room) M [.ref (E.2.2 0), .int (nI u), .int (nI la), .int (nI co), .int (nI c)] 0 0 (fun r M2 => r = nI (csz (fun d => fiA a c d && !clo (a_lk a) u d)) ∧ RelB M2 (flA a u la co c) W) := by
  refine ctI_of (L0 := [some (.ref (E.2.2 0)), some (.int (nI u)), some (.int (nI la)), some (.int (nI co)), some (.int (nI c)), none]) (by decide) rfl (Nat.le_of_ble_eq_true rfl) rfl ?_
  intro Z hl hE hnl F ret
  subst hE
  have in_X4 : ∀ w ∈ u_ws RX4 TX4 9, w ∈ (.code yX8_fill cX8_fill 6 (some .int) :: gl) := fun w h => List.mem_cons_of_mem _ (lay_X4 w h)
  have in_X7 : ∀ w ∈ u_ws RX7 TX7 4, w ∈ (.code yX8_fill cX8_fill 6 (some .int) :: gl) := fun w h => List.mem_cons_of_mem _ (lay_X7 w h)
  have in_X8 : ∀ w ∈ u_ws RX8 TX8 9, w ∈ (.code yX8_fill cX8_fill 6 (some .int) :: gl) := fun w h => List.mem_cons_of_mem _ (lay_X8 w h)
  have g19 : FG Z 19 8 1 := fg_mk F (C := RX8) (T := TX8) (N := 9) in_X8 rfl (by decide) rfl (List.mem_cons_of_mem _ fk_X8_19)
  have g39 : FG Z 39 8 4 := fg_mk F (C := RX8) (T := TX8) (N := 9) in_X8 rfl (by decide) rfl (List.mem_cons_of_mem _ fk_X8_39)
  have g49 : FG Z 49 8 6 := fg_mk F (C := RX8) (T := TX8) (N := 9) in_X8 rfl (by decide) rfl (List.mem_cons_of_mem _ fk_X8_49)
  have g56 : FG Z 56 8 7 := fg_mk F (C := RX8) (T := TX8) (N := 9) in_X8 rfl (by decide) rfl (List.mem_cons_of_mem _ fk_X8_56)
  have g60 : FG Z 60 8 8 := fg_mk F (C := RX8) (T := TX8) (N := 9) in_X8 rfl (by decide) rfl (List.mem_cons_of_mem _ fk_X8_60)
  have g140 : FG Z 140 4 8 := fg_mk F (C := RX4) (T := TX4) (N := 9) in_X4 rfl (by decide) rfl (List.mem_cons_of_mem _ fk_X8_140)
  have g154 : FG Z 154 7 2 := fg_mk F (C := RX7) (T := TX7) (N := 4) in_X7 rfl (by decide) rfl (List.mem_cons_of_mem _ fk_X8_154)
  have p128 : FP Z 128 4 3 .int := fp_mk F (C := RX4) (T := TX4) (N := 9) in_X4 tyX4_ok nmX4 rfl (by decide) rfl (List.mem_cons_of_mem _ fk_X8_128) rfl (by decide +kernel)
  obtain ⟨hO, hL, hU, hK, hS, hT, hR0⟩ := id hB
  obtain ⟨h60, ht, htk, hn, hop, hac, hopk, Cb, hC, hCb⟩ := id hO
  obtain ⟨own, en, fa, la9, l1, hA, hp⟩ := id hL
  obtain ⟨s1, s2, s3, s4⟩ := id hS
  obtain ⟨S0, hS0⟩ := id hR0.1
  obtain ⟨R, Q, q, hR, hQ, hq, hok⟩ := id hR0.2
  have kb := kd_B
  have kl := kd_Log
  have ke := kd_ents
  have ks := kd_sc0 sc204
  have ks1 := kd_sc1 sc204
  have ks2 := kd_sc2 sc204
  have ks3 := kd_sc3 sc204
  have ks4 := kd_sc4 sc204
  have kt := kd_sc0 sc329
  have kt3 := kd_sc3 sc329
  have kp := kd_PT
  have kL := kd_Ls
  have cs8 := cs_scr
  have k58 := kd_458
  have k59 := kd_459
  have kr := kd_Reg
  have km := kd_marks
  have kc := kd_codes
  have k3 := kd_cols
  have k4 := kd_prows
  have kar := kd_areas
  have kow := kd_owners
  have ken := kd_ends
  have kq := kd_queue
  have kt1 := kd_sc1 sc329
  have kt2 := kd_sc2 sc329
  refine jj_iload_n F dX8_fill_0 rfl ?_
  refine jj_callSv (na := 1) F (c_X8_refuseWrongUser hu) (gl_S mk_X8_106 vw_X8_refuseWrongUser) rfl rfl rfl (by decide +kernel) ⟨Nat.le_of_ble_eq_true rfl, Nat.le_of_ble_eq_true rfl⟩ rfl rfl (Nat.le_of_ble_eq_true rfl) ⟨Nat.le_of_ble_eq_true rfl, Nat.le_of_ble_eq_true rfl⟩ dX8_fill_1 (fun M1 hp1 => ?_)
  obtain rfl := hp1.symm
  refine jj_iload_n F dX8_fill_4 rfl ?_
  refine jj_callSv (na := 1) F (c_X8_refuseWrongLayer hla) (gl_S mk_X8_110 vw_X8_refuseWrongLayer) rfl rfl rfl (by decide +kernel) ⟨Nat.le_of_ble_eq_true rfl, Nat.le_of_ble_eq_true rfl⟩ rfl rfl (Nat.le_of_ble_eq_true rfl) ⟨Nat.le_of_ble_eq_true rfl, Nat.le_of_ble_eq_true rfl⟩ dX8_fill_5 (fun M5 hp5 => ?_)
  obtain rfl := hp5.symm
  refine jj_iload F dX8_fill_8 rfl ?_
  refine jj_callSv (na := 1) F (c_X8_refuseWrongCell hc) (gl_S mk_X8_151 vw_X8_refuseWrongCell) rfl rfl rfl (by decide +kernel) ⟨Nat.le_of_ble_eq_true rfl, Nat.le_of_ble_eq_true rfl⟩ rfl rfl (Nat.le_of_ble_eq_true rfl) ⟨Nat.le_of_ble_eq_true rfl, Nat.le_of_ble_eq_true rfl⟩ dX8_fill_10 (fun M10 hp10 => ?_)
  obtain rfl := hp10.symm
  refine jj_iload_n F dX8_fill_13 rfl ?_
  refine jj_callSv (na := 1) F (c_X8_refuseWrongColor h1 h9) (gl_S mk_X8_113 vw_X8_refuseWrongColor) rfl rfl rfl (by decide +kernel) ⟨Nat.le_of_ble_eq_true rfl, Nat.le_of_ble_eq_true rfl⟩ rfl rfl (Nat.le_of_ble_eq_true rfl) ⟨Nat.le_of_ble_eq_true rfl, Nat.le_of_ble_eq_true rfl⟩ dX8_fill_14 (fun M14 hp14 => ?_)
  obtain rfl := hp14.symm
  refine jj_aload_n F dX8_fill_17 rfl ?_
  have hBP := hB
  have hnP : M.1 5 1 = nI (a_n a) := hBP.1.2.2.2.1
  have htP : M.1 0 8 = nI (a_t a) := hBP.1.2.2.1
  refine jj_callVv (na := 0) F (c_X8_refuseFullLog (n := a_n a) hnP h60n) (gl_V mk_X8_121 vw_X8_refuseFullLog) rfl rfl rfl (by decide +kernel) ⟨Nat.le_of_ble_eq_true rfl, Nat.le_of_ble_eq_true rfl⟩ (by assumption) rfl rfl rfl (Nat.le_of_ble_eq_true rfl) ⟨Nat.le_of_ble_eq_true rfl, Nat.le_of_ble_eq_true rfl⟩ dX8_fill_18 (fun M18 hp18 => ?_)
  obtain rfl := hp18.symm
  refine jj_aload_n F dX8_fill_21 rfl ?_
  refine jj_getr F g19 (by assumption) (by rfl) dX8_fill_22 ?_
  refine jj_iconst F (v := nI 1) dX8_fill_25 (by decide) ?_
  refine jj_iload_n F dX8_fill_26 rfl ?_
  refine jj_iload_n F dX8_fill_27 rfl ?_
  refine jj_aload_n F dX8_fill_28 rfl ?_
  refine jj_geti F g60 (by assumption) (by rfl) dX8_fill_29 ?_
  rw [htP]
  refine jj_callVr (na := 4) F (c_X2_begin (so := nI 1) (ow := nI u) (la := nI la) (ti := nI (a_t a)) hnP h60n) (gl_V mk_X8_124 vw_X2_begin) rfl rfl rfl (by decide +kernel) ⟨Nat.le_of_ble_eq_true rfl, Nat.le_of_ble_eq_true rfl⟩ (by assumption) rfl rfl rfl (Nat.le_of_ble_eq_true rfl) ⟨Nat.le_of_ble_eq_true rfl, Nat.le_of_ble_eq_true rfl⟩ dX8_fill_32 (fun M32 r32 hp32 => ?_)
  obtain ⟨rfl, rfl⟩ := symm2 (Prod.mk.inj hp32)
  have hbeg := BegF_mk (M := M) (n := a_n a) (u := u) (la := la) (so := nI 1) (t := nI (a_t a))
  have kon := kd_op (a_n a) h60n
  have csn := cs_op (a_n a) h60n
  generalize wA (wA (fam 7 3 (a_n a) (fgF M (nI u)) M) 5 (upd (M.1 5) 1 (nI (a_n a + 1)))) (7 + 3 * a_n a) (opN (nI 1) (nI u) (nI la) (nI (a_t a))) = MB at hbeg ⊢
  refine jj_astore F dX8_fill_35 (by rw [hnl]; decide) ?_
  dsimp only [lq_st, lq_clr, lq_no]
  refine jj_aload F dX8_fill_37 rfl ?_
  refine jj_iload_n F dX8_fill_39 rfl ?_
  refine jj_puti F p128 (by assumption) (by rfl) dX8_fill_40 ?_
  have hbeg := BegF_put (c := 3) (v := nI co) hbeg (by omega)
  generalize wA MB (7 + 3 * a_n a) (upd (MB.1 (7 + 3 * a_n a)) 3 (nI co)) = MC at hbeg ⊢
  have hbeg := BegF_f hbeg (opF_er (so := 1) (u := u) (la := la) (co := co) (t := a_t a))
  have hopk9 : opOk (a_t a) (opF 1 u la co 0 (a_t a)) := opOk_F (by omega) hu hla (by omega) (by omega) (by omega) (by omega)
  have hoB : ∀ x, x ≠ 5 → (∀ i, i ≤ a_n a → x ≠ 7 + 3 * i) → MC.1 x = M.1 x := hbeg.2.2.2.2.2.2.2.2
  have h207 : MC.1 207 = clA a := by rw [hoB 207 (by omega) (fun j hj => by omega)]; exact s3
  refine jj_aload_n F dX8_fill_43 rfl ?_
  refine jj_getr F g39 (by assumption) (by rfl) dX8_fill_44 ?_
  refine jj_aload_n F dX8_fill_47 rfl ?_
  refine jj_getr F g39 (by assumption) (by rfl) dX8_fill_48 ?_
  refine jj_getr F g154 (by assumption) (by rfl) dX8_fill_51 ?_
  refine jj_iload F dX8_fill_54 rfl ?_
  refine jj_iald F (by assumption) rfl (by omega) dX8_fill_56 ?_
  refine jj_topi (congrFun h207 c) ?_
  refine jj_aload_n F dX8_fill_57 rfl ?_
  refine jj_getr F g56 (by assumption) (by rfl) dX8_fill_58 ?_
  refine jj_callVv (na := 2) F (c_X7_collectColor (M := MC) (b := 204) (k := 458) (col := clA a c) sc204 cs8 (by decide)) (gl_V mk_X8_157 vw_X7_collectColor) rfl rfl rfl (by decide +kernel) ⟨Nat.le_of_ble_eq_true rfl, Nat.le_of_ble_eq_true rfl⟩ (by assumption) rfl rfl rfl (Nat.le_of_ble_eq_true rfl) ⟨Nat.le_of_ble_eq_true rfl, Nat.le_of_ble_eq_true rfl⟩ dX8_fill_61 (fun MF hpF => ?_)
  rw [show MC.1 (204 + 3) = clA a from h207] at hpF
  refine jj_aload_n F dX8_fill_64 rfl ?_
  refine jj_getr F g49 (by assumption) (by rfl) dX8_fill_65 ?_
  refine jj_iload F dX8_fill_68 rfl ?_
  refine jj_aload_n F dX8_fill_70 rfl ?_
  refine jj_getr F g56 (by assumption) (by rfl) dX8_fill_71 ?_
  refine jj_aload F dX8_fill_74 rfl ?_
  refine jj_getr F g140 (by assumption) (by rfl) dX8_fill_76 ?_
  refine jj_callVv (na := 3) F (c_X6_reach (c := c) (r := 7 + 3 * a_n a + 1) (k := 458) (S := (fun e => decide (e < 256) && decide (clA a e = clA a c))) (Q := Q) (q := q) hc csn (by omega) cs8 (by decide) (by rw [hpF, wA_s]) (by rw [hpF, wA_n (by decide), hoB 457 (by omega) (fun j hj => by omega)]; exact hQ) (by rw [hpF, wA_1n (by decide), hoB 454 (by omega) (fun j hj => by omega)]; exact hq) ⟨hok.1, hok.2⟩) (gl_V mk_X8_161 vw_X6_reach) rfl rfl rfl (by decide +kernel) ⟨Nat.le_of_ble_eq_true rfl, Nat.le_of_ble_eq_true rfl⟩ kr rfl rfl rfl (Nat.le_of_ble_eq_true rfl) ⟨Nat.le_of_ble_eq_true rfl, Nat.le_of_ble_eq_true rfl⟩ dX8_fill_79 (fun MG hpG => ?_)
  rw [fi_reach hc] at hpG
  have gT : MG.1 (7 + 3 * a_n a + 1 + 1) = rowsOf (fiA a c) := by rw [hpG, wA_s]
  have gO : ∀ x, x ≠ 454 → x ≠ 456 → x ≠ 457 → x ≠ 459 → x ≠ 7 + 3 * a_n a + 1 + 1 → MG.1 x = MC.1 x := fun x h1 h2 h3 h4 h5 => by rw [hpG, wA_n h5, regM_o h1 h2 h3, hpF, wA_n h4]
  have gA : ∀ i, i < 6 → MG.1 (191 + 2 * i + 1) = rowsOf (rect (fa i) (la9 i)) := fun i hi => by rw [gO _ (by omega) (by omega) (by omega) (by omega) (by omega), hoB _ (by omega) (fun j hj => by omega)]; exact hA i hi
  have gL : ∀ j, j < 6 → MG.1 189 j = nI (own j) ∧ MG.1 190 j = nI (en j) ∧ own j < 5 ∧ en j < 200000 ∧ fa j < 257 ∧ la9 j < 257 := fun j hj => by rw [gO 189 (by omega) (by omega) (by omega) (by omega) (by omega), gO 190 (by omega) (by omega) (by omega) (by omega) (by omega), hoB 189 (by omega) (fun j hj => by omega), hoB 190 (by omega) (fun j hj => by omega)]; exact l1 j hj
  have g08 : MG.1 0 8 = nI (a_t a) := by rw [gO 0 (by omega) (by omega) (by omega) (by omega) (by omega), hoB 0 (by omega) (fun j hj => by omega)]; exact htP
  have g71 : MG.1 (7 + 3 * a_n a) 1 = nI u := by rw [gO _ (by omega) (by omega) (by omega) (by omega) (by omega)]; exact hbeg.2.2.2.2.2.1 1 (by omega)
  have g2 : MG.2 = MC.2 := by rw [hpG, hpF]; rfl
  have gR : ∃ (R : Nat → Bool) (Q : Nat → Nat) (q : Nat), MG.1 456 = rowsOf R ∧ MG.1 457 = qA Q ∧ MG.1 454 2 = nI q ∧ rok (R, Q, q) := ⟨(sprd (nI 0) c (fun e => decide (e < 256) && decide (clA a e = clA a c)) Q).1, (sprd (nI 0) c (fun e => decide (e < 256) && decide (clA a e = clA a c)) Q).2.1, (sprd (nI 0) c (fun e => decide (e < 256) && decide (clA a e = clA a c)) Q).2.2, by rw [hpG, wA_n (by omega), regM_456], by rw [hpG, wA_n (by omega), regM_457], by rw [hpG, wA_n (by omega), regM_454], rok_sprd (q := q) hc ⟨hok.1, hok.2⟩⟩
  clear hpG hpF
  refine jj_aload_n F dX8_fill_82 rfl ?_
  refine jj_aload F dX8_fill_83 rfl ?_
  refine jj_callVv (na := 1) F (c_X8_leaveOutClosedCells (k := a_n a) (S := fiA a c) (A := fun i => rect (fa i) (la9 i)) h60n gT gA) (gl_V mk_X8_165 vw_X8_leaveOutClosedCells) rfl rfl rfl (by decide +kernel) ⟨Nat.le_of_ble_eq_true rfl, Nat.le_of_ble_eq_true rfl⟩ (by assumption) rfl rfl rfl (Nat.le_of_ble_eq_true rfl) ⟨Nat.le_of_ble_eq_true rfl, Nat.le_of_ble_eq_true rfl⟩ dX8_fill_85 (fun MT hpT => ?_)
  rw [g08, g71, show cloF MG (fun i => rect (fa i) (la9 i)) (nI (a_t a)) (nI u) 6 = clo (a_lk a) u from funext (fun c => cloF_eq (by omega) (by omega) gL hp c)] at hpT
  have hMT : RelP MT (flA a u la co c) W := by
    rw [hpT]
    obtain ⟨R9, Q9, q9, r2, r3, r4, r5⟩ := gR
    refine RelP_beg hB h60n hopk9 hbeg (wA_s _ _ _) (fun x h1 h2 h3 h4 h5 h6 => by rw [wA_n h6, wA_n h5]; exact gO x h2 h3 h4 h5 h6) ?_ ⟨⟨_, by rw [wA_n (by omega), wA_s]⟩, R9, Q9, q9, by rw [wA_n (by omega), wA_n (by omega)]; exact r2, by rw [wA_n (by omega), wA_n (by omega)]; exact r3, by rw [wA_n (by omega), wA_n (by omega)]; exact r4, r5⟩
    have := RelT_ag (N := wA (wA MG (458 + 1) (rowsOf (clo (a_lk a) u))) (7 + 3 * a_n a + 1 + 1) (rowsOf (fun d => fiA a c d && !clo (a_lk a) u d))) hT (fun x h1 h2 h3 => by rw [wA_n (by omega), wA_n (by omega), gO x (by omega) (by omega) (by omega) (by omega) (by omega), hoB x (by omega) (fun j hj => by omega)]) (g2.trans hbeg.1)
    exact this
  clear hpT
  refine jj_aload_n F dX8_fill_88 rfl ?_
  refine jj_callVv (na := 0) F (b_show (a := flA a u la co c) hMT) (gl_V mk_X8_75 vw_X8_showNow) rfl rfl rfl (by decide +kernel) ⟨Nat.le_of_ble_eq_true rfl, Nat.le_of_ble_eq_true rfl⟩ (by assumption) rfl rfl rfl (Nat.le_of_ble_eq_true rfl) ⟨Nat.le_of_ble_eq_true rfl, Nat.le_of_ble_eq_true rfl⟩ dX8_fill_89 (fun MS hS9 => ?_)
  refine jj_aload F dX8_fill_92 rfl ?_
  refine jj_getr F g140 (by assumption) (by rfl) dX8_fill_94 ?_
  refine jj_callVi (na := 0) F (c_X0_size (S := fun d => fiA a c d && !clo (a_lk a) u d) csn ((csz_of hS9 (Nat.lt_succ_self _)).trans (congrArg rowsOf (if_pos rfl)))) (gl_V mk_X8_143 vw_X0_size) rfl rfl rfl (by decide +kernel) ⟨Nat.le_of_ble_eq_true rfl, Nat.le_of_ble_eq_true rfl⟩ csn.1 rfl rfl rfl (Nat.le_of_ble_eq_true rfl) ⟨Nat.le_of_ble_eq_true rfl, Nat.le_of_ble_eq_true rfl⟩ dX8_fill_97 (fun r97 M97 hp97 => ?_)
  obtain ⟨rfl, rfl⟩ := symm2 hp97
  refine ret _ _ _ _ dX8_fill_100 (by first | rfl | exact nar_z (by first | exact Or.inl rfl | exact Or.inr rfl | exact b2i_01 _ | assumption)) ?_
  exact ⟨rfl, hS9⟩
