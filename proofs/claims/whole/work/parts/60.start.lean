/-! the start -/
theorem hts_gl {s : State} {b : Nat} (hts : ∀ w ∈ lw_tbl, w.before #[Value.ref b] s = true) : ∀ w ∈ gl, w.before #[Value.ref b] s = true := fun w h => hts w (List.mem_filter.mp h).1
set_option maxRecDepth 100000 in
theorem xwA_tb : ∀ w ∈ xwA, w ∈ lw_tbl := by
  have h : xwA.all (fun w => decide (w ∈ tables_1) || decide (w ∈ k2_sels lw_privs)) = true := by decide +kernel
  intro w hw
  have h2 := List.all_eq_true.mp h w hw
  simp only [Bool.or_eq_true, decide_eq_true_eq] at h2
  rcases h2 with h3 | h3
  · exact List.mem_append_right _ h3
  · exact List.mem_append_left _ h3
set_option maxRecDepth 100000 in
theorem strs_tb : ∀ q ∈ strs, Cond.stringRef RX8 q.1 q.2 ∈ lw_tbl := by
  have h : strs.all (fun q => decide (Cond.stringRef RX8 q.1 q.2 ∈ tables_1)) = true := by decide +kernel
  intro q hq
  exact List.mem_append_right _ (of_decide_eq_true (List.all_eq_true.mp h q hq))
set_option maxRecDepth 100000 in
theorem nwA_tb : ∀ q ∈ nwA, Cond.methodLinkNest q.1 q.2.1 q.2.2 RX8 ∈ lw_tbl := by
  have h : nwA.all (fun q => decide (Cond.methodLinkNest q.1 q.2.1 q.2.2 RX8 ∈ tables_1)) = true := by decide +kernel
  intro q hq
  exact List.mem_append_right _ (of_decide_eq_true (List.all_eq_true.mp h q hq))
set_option maxRecDepth 100000 in
theorem tbW : Cond.arrayOver (.object RX0) ∈ lw_tbl ∧ Cond.arrayOver (.object RX3) ∈ lw_tbl ∧ Cond.arrayOver (.object RX4) ∈ lw_tbl ∧ Cond.laysStatic Bundle.tN "UNASSIGNED_STACK" Bundle.steD ∈ lw_tbl ∧ Cond.laysStatic Bundle.tN "SUPPRESSED_SENTINEL" Bundle.listD ∈ lw_tbl ∧ Cond.initialized Bundle.tN ∈ lw_tbl := ⟨List.mem_append_right _ (by decide +kernel), List.mem_append_right _ (by decide +kernel), List.mem_append_right _ (by decide +kernel), List.mem_append_right _ (by decide +kernel), List.mem_append_right _ (by decide +kernel), List.mem_append_right _ (by decide +kernel)⟩
set_option maxRecDepth 100000 in
theorem nrW : Cond.isRef (.static Bundle.tN "UNASSIGNED_STACK" Bundle.steD) ∈ flatC (Jvm.Cond.and given_1 narrow_1) ∧ Cond.isRef (.static Bundle.tN "SUPPRESSED_SENTINEL" Bundle.listD) ∈ flatC (Jvm.Cond.and given_1 narrow_1) ∧ Cond.not (.castable eIA eIX) ∈ flatC (Jvm.Cond.and given_1 narrow_1) ∧ Cond.not (.castable eIS eIX) ∈ flatC (Jvm.Cond.and given_1 narrow_1) ∧ Cond.not (.castable eIS eIA) ∈ flatC (Jvm.Cond.and given_1 narrow_1) := ⟨by decide +kernel, by decide +kernel, by decide +kernel, by decide +kernel, by decide +kernel⟩
theorem kn_all {s : State} {b : Nat} (hts : ∀ w ∈ gl, w.before #[Value.ref b] s = true) : ∀ c : Nat, ∃ r : ClassId × (Nat → Nat), ∀ q : vw_C, vwCl[c]? = some q → u_Kn s q.1 q.2.1 q.2.2 r.1 r.2
  | 0 => by
    obtain ⟨cC, iS, h⟩ := u_known (C := RX0) (T := TX0) (N := 1) (n := 1) hts lay_X0 (hts _ in_X0)
    exact ⟨(cC, iS), fun q hq => by cases hq; exact h⟩
  | 1 => by
    obtain ⟨cC, iS, h⟩ := u_known (C := RX1) (T := TX1) (N := 3) (n := 3) hts lay_X1 (hts _ in_X1)
    exact ⟨(cC, iS), fun q hq => by cases hq; exact h⟩
  | 2 => by
    obtain ⟨cC, iS, h⟩ := u_known (C := RX2) (T := TX2) (N := 3) (n := 3) hts lay_X2 (hts _ in_X2)
    exact ⟨(cC, iS), fun q hq => by cases hq; exact h⟩
  | 3 => by
    obtain ⟨cC, iS, h⟩ := u_known (C := RX3) (T := TX3) (N := 4) (n := 4) hts lay_X3 (hts _ in_X3)
    exact ⟨(cC, iS), fun q hq => by cases hq; exact h⟩
  | 4 => by
    obtain ⟨cC, iS, h⟩ := u_known (C := RX4) (T := TX4) (N := 9) (n := 9) hts lay_X4 (hts _ in_X4)
    exact ⟨(cC, iS), fun q hq => by cases hq; exact h⟩
  | 5 => by
    obtain ⟨cC, iS, h⟩ := u_known (C := RX5) (T := TX5) (N := 7) (n := 7) hts lay_X5 (hts _ in_X5)
    exact ⟨(cC, iS), fun q hq => by cases hq; exact h⟩
  | 6 => by
    obtain ⟨cC, iS, h⟩ := u_known (C := RX6) (T := TX6) (N := 3) (n := 3) hts lay_X6 (hts _ in_X6)
    exact ⟨(cC, iS), fun q hq => by cases hq; exact h⟩
  | 7 => by
    obtain ⟨cC, iS, h⟩ := u_known (C := RX7) (T := TX7) (N := 4) (n := 4) hts lay_X7 (hts _ in_X7)
    exact ⟨(cC, iS), fun q hq => by cases hq; exact h⟩
  | 8 => by
    obtain ⟨cC, iS, h⟩ := u_known (C := RX8) (T := TX8) (N := 9) (n := 9) hts lay_X8 (hts _ in_X8)
    exact ⟨(cC, iS), fun q hq => by cases hq; exact h⟩
  | 9 => by
    obtain ⟨cC, iS, h⟩ := u_known (C := RX9) (T := TX9) (N := 33) (n := 33) hts lay_X9 (hts _ in_X9)
    exact ⟨(cC, iS), fun q hq => by cases hq; exact h⟩
  | c + 10 => ⟨(0, fun _ => 0), fun q hq => by simp [vwCl] at hq⟩
theorem arr_p {s : State} {b : Nat} {ty : FieldType} (h : (Cond.arrayClass ty).before #[Value.ref b] s = true) : ∃ cA : ClassId, ArrOfT s cA ty ∧ s.vm.findClass ("[" ++ ty.toString) = some cA := by
  have h : (Cond.arrayClass ty).holds #[Value.ref b] s none s [] = true := h
  obtain ⟨c, k, comp, h1, h2, h3⟩ := Cond.arrayClass_spec h
  exact ⟨c, fun n z => ⟨fun k h => (by cases h), k, h2, comp, h3⟩, h1⟩
theorem arr_q {s : State} {b : Nat} {C : String} (h : (Cond.arrayOver (.object C)).before #[Value.ref b] s = true) : ∃ cA : ClassId, ArrOfT s cA (.object C) ∧ va_RA s cA (.object C) := by
  have h : (Cond.arrayOver (.object C)).holds #[Value.ref b] s none s [] = true := h
  obtain ⟨comp, c, k, h1, -, h2, h3, h4⟩ := Cond.arrayOver_spec h
  exact ⟨c, fun n z => ⟨fun k h => (by cases h), k, h2, comp, h3⟩, k, comp, h2, h3, h1, h4⟩
theorem aa_law {E : Ee} {sz : Nat} (h : ∀ k, E.2.2 k = sz + k) : (fun q : Nat => sz ≤ q) = AA E sz := by
  funext q
  apply propext
  constructor
  · exact fun h => Or.inr h
  · rintro (⟨k, -, rfl⟩ | h2)
    · rw [h k]; omega
    · exact h2
set_option maxRecDepth 100000 in
set_option maxHeartbeats 2000000 in
theorem whole_start {p : Program} {e : Env} {s : State} {m : MethodId} {below : List Frame} {meth : Method} {c : Code} (l : Launch) (hflags : l.flags = flags0) {b L : Nat} {xs : Nat → Int32} (hL : L ≤ 2560) (C0 : lw_At p s m meth c b L xs) : W p l e room_1 s m #[Value.ref b] below meth c s.heap [] 0 0 (lw_Z below #[Value.ref b] s) (entryFrame m ([Value.ref b] : List Value).toArray 9) := by
  obtain ⟨hx, hb, hr, hml, hown, hts, hX, hbl, hlocks, hgv⟩ := id C0
  have hgl := hts_gl hts
  have hnr := flat_of_before _ hgv
  have hst0 : l.stackTraces = false := by unfold Launch.stackTraces; rw [hflags]; decide
  obtain ⟨f, hf⟩ := Classical.axiomOfChoice (kn_all hgl)
  obtain ⟨cI, i1, i2⟩ := arr_p (hgl _ ac_int)
  obtain ⟨cZ, z1, z2⟩ := arr_p (hgl _ ac_boolean)
  obtain ⟨cL, l1, l2⟩ := arr_p (hgl _ ac_long)
  obtain ⟨a0, r01, r02⟩ := arr_q (hts _ tbW.1)
  obtain ⟨a3, r31, r32⟩ := arr_q (hts _ tbW.2.1)
  obtain ⟨a4, r41, r42⟩ := arr_q (hts _ tbW.2.2.1)
  obtain ⟨E, hE⟩ : ∃ E : Ee, E = ((fun c => (f c).1, fun c => (f c).2), (cI, cZ, cL, fun t => if t = 0 then a0 else if t = 1 then a3 else a4), fun k => s.heap.size + k) := ⟨_, rfl⟩
  have hEk : ∀ k, E.2.2 k = s.heap.size + k := fun k => by rw [hE]
  have hK : va_K E.1 vwCl (ltys E) s := by
    rw [hE]
    refine ⟨fun c q hq => hf c q hq, fun k q hq => ?_⟩
    match k, hq with
    | 0, hq => cases hq; exact ⟨i1, i2⟩
    | 1, hq => cases hq; exact ⟨z1, z2⟩
    | 2, hq => cases hq; exact ⟨l1, l2⟩
    | 3, hq => cases hq; exact ⟨r01, r02⟩
    | 4, hq => cases hq; exact ⟨r31, r32⟩
    | 5, hq => cases hq; exact ⟨r41, r42⟩
    | k + 6, hq => simp [ltys] at hq
  have hAA := aa_law hEk
  have hlt : ∀ a : Nat, a < s.heap.size → ¬ AA E s.heap.size a := fun a ha => by rw [← hAA]; exact Nat.not_le.mpr ha
  have hfc : ∃ cur, s.vm.findClass RX8 = some cur := ⟨_, (hK.1 8 _ rfl).2.1⟩
  have hTX : TX E s.heap.size s := by
    refine ⟨vx_Zqof (hts _ tbW.2.2.2.1) (hts _ tbW.2.2.2.2.2) (hnr _ nrW.1) hlt, vx_Zqof (hts _ tbW.2.2.2.2.1) (hts _ tbW.2.2.2.2.2) (hnr _ nrW.2.1) hlt, fun q hq => ?_, fun w hw => va_tabs (xwA_ok w hw).1 rfl (hts w (xwA_tb w hw)), va_Nc.of (hnr _ nrW.2.2.1), va_Nc.of (hnr _ nrW.2.2.2.1), va_Nc.of (hnr _ nrW.2.2.2.2)⟩
    obtain ⟨cur, hcur⟩ := hfc
    have h : (Cond.stringRef RX8 q.1 q.2).holds #[Value.ref b] s none s [] = true := hts _ (strs_tb q hq)
    obtain ⟨k, cf, i, a, -, -, -, -, -, hev⟩ := Cond.stringRef_spec hcur h
    exact ⟨a, vk_R.of (hts _ (strs_tb q hq)) hev⟩
  have hBO : BO s := ⟨va_AO.of (hts _ tbW.1), va_AO.of (hts _ tbW.2.1), va_AO.of (hts _ tbW.2.2.1), fun q hq => va_Nw.of rfl (hts _ (nwA_tb q hq))⟩
  clear hE hf hts hnr hgv hfc
  have hl := lv_entry ([.ref b]) (n := 9) (Nat.le_of_ble_eq_true rfl)
  rw [lg_entry_eq]
  generalize (lg_sl ([.ref b]) ++ List.replicate (9 - (lg_sl ([.ref b])).length) Slot.unset).toArray = ls at hl ⊢
  have hl : lq_has ls 9 [some (.ref b), none, none, none, none, none, none, none, none] := lq_of hl
  suffices K : ∀ Z : Zt, Z = ((p, l, e, room_1, s, m, #[Value.ref b], below, meth, c), (E, (fun q : Nat => s.heap.size ≤ q), s.heap, lw_Z below #[Value.ref b] s, 9)) → BJ Z (0, 0) 0 (fun j => lc (zE Z) M0 j) 0 [some (.ref b), none, none, none, none, none, none, none, none] [] by
    exact K _ rfl s.heap [] ls (fun k q h => by simp [bw] at h) va_S.rf hl
  intro Z hZ
  have F : ZF Z code (cxL :: gl) RL room_1 := by
    subst hZ
    refine ⟨⟨hx, hb, hml, hown, fun w hw => ?_⟩, hK, fun q h => h, rfl, fun k _ => ?_⟩
    · rcases List.mem_cons.mp hw with rfl | hw
      · exact hgl _ ii_X8
      · exact hgl w hw
    · show s.heap.size ≤ E.2.2 k
      rw [hEk k]
      omega
  have X : BX Z 0 := by
    subst hZ
    refine ⟨fun k => ?_, ?_, ?_, hBO⟩
    · show E.2.2 k = E.2.2 0 + k
      rw [hEk k, hEk 0]
      rfl
    · show s.heap.size = E.2.2 0
      rw [hEk 0]
      rfl
    · show (fun q : Nat => s.heap.size ≤ q) = (fun q => E.2.2 0 ≤ q)
      rw [hEk 0]
      rfl
  have XW : WX Z := by
    subst hZ
    exact ⟨hAA, rfl, hTX⟩
  have S : LX Z b L xs := by
    subst hZ
    exact ⟨hX, hbl, Nat.not_le.mpr hbl⟩
  have hnl : zn Z = 9 := by rw [hZ]
  have hzl : (zl Z).stackTraces = false := by rw [hZ]; exact hst0
  have fin : ∀ (κ : Nat × Nat) (M : Mm) (LL : List (Option Value)), κ.1 ≤ 601024 → κ.2 ≤ 7293034 → JJ Z κ M 1613 LL [.int (nI 1)] := by
    subst hZ
    intro κ M LL h1 h2 H locs ls a bb cc9 dd
    refine va_forget (fun q hq => cc9.2.2 q hq) ?_
    refine W.widen h1 h2 ?_
    have k9 := lw_ret (p := p) (l := l) (e := e) (s := s) (m := m) (below := below) (meth := meth) (c := c) (b := b) (d0 := s.drawn) (Drawn.sameBut.refl s.drawn lw_cs) hx hb hr hlocks (pc := 1613) (H := H) (ls := ls) dL_law_1613
    exact k9
  clear hZ
  refine bj_new F X (n := 0) (ci := 8) (N := 9) (fs := [.null, .null, .null, .null, .null, .null, .null, .null, .int 0]) tyX8 tyX8_ok (fun w h => List.mem_cons_of_mem _ (lay_X8 w h)) (List.mem_cons_of_mem _ cl_L_8) (List.mem_cons_of_mem _ in_X8) (List.mem_cons_of_mem _ ii_X8) rfl (by intro j hj; match j, hj with | 0, _ => rfl | 1, _ => rfl | 2, _ => rfl | 3, _ => rfl | 4, _ => rfl | 5, _ => rfl | 6, _ => rfl | 7, _ => rfl | 8, _ => rfl) rfl ⟨Nat.le_of_ble_eq_true rfl, Nat.le_of_ble_eq_true rfl⟩ dL_law_0 ?_
  refine bj_dup F dL_law_3 rfl ?_
  refine bj_call F X (i_X8 X.1 (fun j _ => rfl)) (gl_C cw_X8) rfl rfl rfl (List.mem_cons_of_mem _ ii_X8) (List.mem_cons_of_mem _ ml_L_82) (List.mem_cons_of_mem _ im_X8) rfl (by decide +kernel) ⟨Nat.le_of_ble_eq_true rfl, Nat.le_of_ble_eq_true rfl⟩ (by omega) rfl (Nat.le_of_ble_eq_true rfl) ⟨Nat.le_of_ble_eq_true rfl, Nat.le_of_ble_eq_true rfl⟩ dL_law_4 ?_
  refine bj_astore_n F dL_law_7 (by rw [hnl]; decide) ?_
  dsimp only [lq_st, lq_clr, lq_no]
  refine bj_new F X (n := 478) (ci := 9) (N := 33) (fs := [.int 0, .int 0, .int 0, .null, .null, .null, .null, .null, .null, .null, .null, .int 0, .null, .int 0, .null, .null, .null, .null, .null, .null, .null, .null, .int 0, .null, .null, .null, .null, .null, .int 0, .null, .null, .null, .long 0]) tyX9 tyX9_ok (fun w h => List.mem_cons_of_mem _ (lay_X9 w h)) (List.mem_cons_of_mem _ cl_L_83) (List.mem_cons_of_mem _ in_X9) (List.mem_cons_of_mem _ ii_X9) rfl (by intro j hj; rcases (show j = 0 ∨ j = 1 ∨ j = 2 ∨ j = 3 ∨ j = 4 ∨ j = 5 ∨ j = 6 ∨ j = 7 ∨ j = 8 ∨ j = 9 ∨ j = 10 ∨ j = 11 ∨ j = 12 ∨ j = 13 ∨ j = 14 ∨ j = 15 ∨ j = 16 ∨ j = 17 ∨ j = 18 ∨ j = 19 ∨ j = 20 ∨ j = 21 ∨ j = 22 ∨ j = 23 ∨ j = 24 ∨ j = 25 ∨ j = 26 ∨ j = 27 ∨ j = 28 ∨ j = 29 ∨ j = 30 ∨ j = 31 ∨ j = 32 by omega) with rfl | rfl | rfl | rfl | rfl | rfl | rfl | rfl | rfl | rfl | rfl | rfl | rfl | rfl | rfl | rfl | rfl | rfl | rfl | rfl | rfl | rfl | rfl | rfl | rfl | rfl | rfl | rfl | rfl | rfl | rfl | rfl | rfl <;> rfl) rfl ⟨Nat.le_of_ble_eq_true rfl, Nat.le_of_ble_eq_true rfl⟩ dL_law_8 ?_
  refine bj_dup F dL_law_11 rfl ?_
  refine bj_call F X (i_X9 X.1 (fun j _ => rfl)) (gl_C cw_X9) rfl rfl rfl (List.mem_cons_of_mem _ ii_X9) (List.mem_cons_of_mem _ ml_L_85) (List.mem_cons_of_mem _ im_X9) rfl (by decide +kernel) ⟨Nat.le_of_ble_eq_true rfl, Nat.le_of_ble_eq_true rfl⟩ (by omega) rfl (Nat.le_of_ble_eq_true rfl) ⟨Nat.le_of_ble_eq_true rfl, Nat.le_of_ble_eq_true rfl⟩ dL_law_12 ?_
  refine bj_astore_n F dL_law_15 (by rw [hnl]; decide) ?_
  dsimp only [lq_st, lq_clr, lq_no]
  refine bj_iconst F (v := nI 1) dL_law_16 (by decide) ?_
  refine bj_newL F X (n := 504) (N := 1) (by decide) (by decide) (by decide) (by rw [lc_l _ _ kd_504]; exact ev_rf _) (List.mem_cons_of_mem _ ac_long) rfl ⟨Nat.le_of_ble_eq_true rfl, Nat.le_of_ble_eq_true rfl⟩ dL_law_17 ?_
  refine bj_astore_n F dL_law_19 (by rw [hnl]; decide) ?_
  dsimp only [lq_st, lq_clr, lq_no]
  refine bj_iconst F (v := nI 0) dL_law_20 (by decide) ?_
  refine bj_istore F dL_law_21 (by rw [hnl]; decide) ?_
  dsimp only [lq_st, lq_clr, lq_no]
  refine bj_jj X ?_
  exact law_loop F XW S hnl hzl hL 505 9271 (by omega) (by omega) fin 0 (Nat.zero_le _) M0 INV_0
