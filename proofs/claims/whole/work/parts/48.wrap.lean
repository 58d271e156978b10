/-! the wrappers: what the board's call says, said of the wrapper -/
abbrev RW : Room := ({ frames := 8, cells := 1, slots := 6, locals := 170 } : Room)
abbrev RT : Room := ({ frames := 7, cells := 1, slots := 6, locals := 130 } : Room)
/-- the answer in the law's row out -/
def ouM (M : Mm) (v : Int32) : Mm := wL M 504 (vp_updL (M.2 504) 0 v.toInt64)
theorem lk_13 : Cond.classLink RL 13 eIA ∈ gl := gl_tb (by decide +kernel) rfl
theorem lk_15 : Cond.classLink RL 15 eIS ∈ gl := gl_tb (by decide +kernel) rfl
theorem lk_24 : Cond.classLink RL 24 eIX ∈ gl := gl_tb (by decide +kernel) rfl
set_option maxRecDepth 100000 in
theorem cst_IA : Cond.castable eIA eIA ∈ xwA := by decide +kernel
set_option maxRecDepth 100000 in
theorem cst_IS : Cond.castable eIS eIS ∈ xwA := by decide +kernel
set_option maxRecDepth 100000 in
theorem cst_IX : Cond.castable eIX eIX ∈ xwA := by decide +kernel
theorem kd_0 : kd 0 = .inl (8, [3, 7, 189, 205, 206, 331, 456, 460, 0]) := rfl
theorem kd_504 : kd 504 = .inr (2, 1, 0, 0) := rfl
abbrev wh_pass : List (Nat × Nat × Nat × Nat) := [(0, 9, 12, 13), (0, 9, 15, 15)]
set_option maxRecDepth 100000 in
theorem w_pass_0 {l : Launch} {E : Ee} {M : Mm} {x1 : Int32} {post : Int32 → Mm → Prop} {rmy : Room} (hM : CtI l E yX8_pass (.code yX8_pass cX8_pass 2 (some .int) :: gl) rmy M [.ref (E.2.2 0), .int x1] 0 0 post) (h1 : rmy.frames ≤ 7) (h2 : rmy.locals ≤ 140) (h3 : rmy.cells = 0) (h4 : rmy.slots = 0) : CtW l E yL_pass (.codeWith yL_pass cL_pass 4 (some .int) wh_pass :: gl) RW M [.ref (E.2.2 0), .int x1, .ref (E.2.2 504)] (fun r M2 => r = nI 0 ∧ ∃ v M1, post v M1 ∧ M2 = ouM M1 v) := by
  refine ctW_of (L0 := [some (.ref (E.2.2 0)), some (.int x1), some (.ref (E.2.2 504)), none]) (by decide) rfl (Nat.le_of_ble_eq_true rfl) rfl ?_
  intro Z hl hE hnl F X ret
  subst hl hE
  refine jj_aload_n F dL_pass_0 rfl ?_
  refine jj_iconst F (v := nI 0) dL_pass_1 (by decide) ?_
  refine jj_aload_n F dL_pass_2 rfl ?_
  refine jj_iload_n F dL_pass_3 rfl ?_
  refine jj_callVi (na := 1) F hM (gl_V mk_L_7 vw_X8_pass) rfl h3 h4 (by decide +kernel) ⟨by show rmy.frames + 1 ≤ 8; omega, by show 8 + (2 + 11) + rmy.locals ≤ 170; omega⟩ kd_0 rfl rfl rfl (Nat.le_of_ble_eq_true rfl) ⟨Nat.le_of_ble_eq_true rfl, Nat.le_of_ble_eq_true rfl⟩ dL_pass_4 (fun v9 M9 hp9 => ?_)
  refine jj_i2l F dL_pass_7 ?_
  refine jj_last F kd_504 rfl (by omega) dL_pass_8 ?_
  refine jj_goto F (tgt := 18) dL_pass_9 (by decide) ?_
  refine jj_iconst F (v := nI 0) dL_pass_18 (by decide) ?_
  refine jj_wid (κ2 := (1, 6)) (Nat.zero_le _) (Nat.zero_le _) ?_
  refine ret _ _ _ _ dL_pass_19 rfl ?_
  exact ⟨rfl, v9, M9, hp9, rfl⟩
set_option maxRecDepth 100000 in
theorem w_pass_1 {l : Launch} {E : Ee} {M : Mm} {x1 : Int32} {post : Mm → Prop} (hM : CtT l E yX8_pass (.code yX8_pass cX8_pass 2 (some .int) :: gl) RT M [.ref (E.2.2 0), .int x1] eIA post) : CtW l E yL_pass (.codeWith yL_pass cL_pass 4 (some .int) wh_pass :: gl) RW M [.ref (E.2.2 0), .int x1, .ref (E.2.2 504)] (fun r M2 => r = nI 1 ∧ post M2) := by
  refine ctW_of (L0 := [some (.ref (E.2.2 0)), some (.int x1), some (.ref (E.2.2 504)), none]) (by decide) rfl (Nat.le_of_ble_eq_true rfl) rfl ?_
  intro Z hl hE hnl F X ret
  subst hl hE
  refine jj_aload_n F dL_pass_0 rfl ?_
  refine jj_iconst F (v := nI 0) dL_pass_1 (by decide) ?_
  refine jj_aload_n F dL_pass_2 rfl ?_
  refine jj_iload_n F dL_pass_3 rfl ?_
  have hcat : CatchAt RL wh_pass 4 12 eIA NcP := ⟨[], ⟨0, 9, 12, 13⟩, [⟨0, 9, 15, 15⟩], rfl, (fun z hz => by cases hz), by decide, by decide, lk_13, rfl⟩
  refine jj_catV (na := 1) F X hcat cst_IA hM (gl_V mk_L_7 vw_X8_pass) rfl rfl rfl (by decide +kernel) ⟨Nat.le_of_ble_eq_true rfl, Nat.le_of_ble_eq_true rfl⟩ kd_0 rfl rfl rfl (Nat.le_of_ble_eq_true rfl) ⟨Nat.le_of_ble_eq_true rfl, Nat.le_of_ble_eq_true rfl⟩ dL_pass_4 (fun M9 q9 hp9 => ?_)
  refine jj_astore_n F dL_pass_12 (by rw [hnl]; decide) ?_
  refine jj_iconst F (v := nI 1) dL_pass_13 (by decide) ?_
  refine ret _ _ _ _ dL_pass_14 rfl ?_
  exact ⟨rfl, hp9⟩
set_option maxRecDepth 100000 in
theorem w_pass_2 {l : Launch} {E : Ee} {M : Mm} {x1 : Int32} {post : Mm → Prop} (hM : CtT l E yX8_pass (.code yX8_pass cX8_pass 2 (some .int) :: gl) RT M [.ref (E.2.2 0), .int x1] eIS post) : CtW l E yL_pass (.codeWith yL_pass cL_pass 4 (some .int) wh_pass :: gl) RW M [.ref (E.2.2 0), .int x1, .ref (E.2.2 504)] (fun r M2 => r = nI 2 ∧ post M2) := by
  refine ctW_of (L0 := [some (.ref (E.2.2 0)), some (.int x1), some (.ref (E.2.2 504)), none]) (by decide) rfl (Nat.le_of_ble_eq_true rfl) rfl ?_
  intro Z hl hE hnl F X ret
  subst hl hE
  refine jj_aload_n F dL_pass_0 rfl ?_
  refine jj_iconst F (v := nI 0) dL_pass_1 (by decide) ?_
  refine jj_aload_n F dL_pass_2 rfl ?_
  refine jj_iload_n F dL_pass_3 rfl ?_
  have hcat : CatchAt RL wh_pass 4 15 eIS NcP := ⟨[⟨0, 9, 12, 13⟩], ⟨0, 9, 15, 15⟩, [], rfl, (fun z hz => by
    simp only [List.mem_cons, List.not_mem_nil, or_false] at hz
    rcases hz with rfl
    · exact Or.inr ⟨by decide, eIA, lk_13, Or.inr (Or.inr ⟨rfl, rfl⟩)⟩), by decide, by decide, lk_15, rfl⟩
  refine jj_catV (na := 1) F X hcat cst_IS hM (gl_V mk_L_7 vw_X8_pass) rfl rfl rfl (by decide +kernel) ⟨Nat.le_of_ble_eq_true rfl, Nat.le_of_ble_eq_true rfl⟩ kd_0 rfl rfl rfl (Nat.le_of_ble_eq_true rfl) ⟨Nat.le_of_ble_eq_true rfl, Nat.le_of_ble_eq_true rfl⟩ dL_pass_4 (fun M9 q9 hp9 => ?_)
  refine jj_astore_n F dL_pass_15 (by rw [hnl]; decide) ?_
  refine jj_iconst F (v := nI 2) dL_pass_16 (by decide) ?_
  refine ret _ _ _ _ dL_pass_17 rfl ?_
  exact ⟨rfl, hp9⟩
abbrev wh_append : List (Nat × Nat × Nat × Nat) := [(0, 9, 12, 13), (0, 9, 15, 15)]
set_option maxRecDepth 100000 in
theorem w_append_0 {l : Launch} {E : Ee} {M : Mm} {x1 : Int32} {post : Int32 → Mm → Prop} {rmy : Room} (hM : CtI l E yX8_append (.code yX8_append cX8_append 2 (some .int) :: gl) rmy M [.ref (E.2.2 0), .int x1] 0 0 post) (h1 : rmy.frames ≤ 7) (h2 : rmy.locals ≤ 140) (h3 : rmy.cells = 0) (h4 : rmy.slots = 0) : CtW l E yL_append (.codeWith yL_append cL_append 4 (some .int) wh_append :: gl) RW M [.ref (E.2.2 0), .int x1, .ref (E.2.2 504)] (fun r M2 => r = nI 0 ∧ ∃ v M1, post v M1 ∧ M2 = ouM M1 v) := by
  refine ctW_of (L0 := [some (.ref (E.2.2 0)), some (.int x1), some (.ref (E.2.2 504)), none]) (by decide) rfl (Nat.le_of_ble_eq_true rfl) rfl ?_
  intro Z hl hE hnl F X ret
  subst hl hE
  refine jj_aload_n F dL_append_0 rfl ?_
  refine jj_iconst F (v := nI 0) dL_append_1 (by decide) ?_
  refine jj_aload_n F dL_append_2 rfl ?_
  refine jj_iload_n F dL_append_3 rfl ?_
  refine jj_callVi (na := 1) F hM (gl_V mk_L_17 vw_X8_append) rfl h3 h4 (by decide +kernel) ⟨by show rmy.frames + 1 ≤ 8; omega, by show 8 + (2 + 11) + rmy.locals ≤ 170; omega⟩ kd_0 rfl rfl rfl (Nat.le_of_ble_eq_true rfl) ⟨Nat.le_of_ble_eq_true rfl, Nat.le_of_ble_eq_true rfl⟩ dL_append_4 (fun v9 M9 hp9 => ?_)
  refine jj_i2l F dL_append_7 ?_
  refine jj_last F kd_504 rfl (by omega) dL_append_8 ?_
  refine jj_goto F (tgt := 18) dL_append_9 (by decide) ?_
  refine jj_iconst F (v := nI 0) dL_append_18 (by decide) ?_
  refine jj_wid (κ2 := (1, 6)) (Nat.zero_le _) (Nat.zero_le _) ?_
  refine ret _ _ _ _ dL_append_19 rfl ?_
  exact ⟨rfl, v9, M9, hp9, rfl⟩
set_option maxRecDepth 100000 in
theorem w_append_1 {l : Launch} {E : Ee} {M : Mm} {x1 : Int32} {post : Mm → Prop} (hM : CtT l E yX8_append (.code yX8_append cX8_append 2 (some .int) :: gl) RT M [.ref (E.2.2 0), .int x1] eIA post) : CtW l E yL_append (.codeWith yL_append cL_append 4 (some .int) wh_append :: gl) RW M [.ref (E.2.2 0), .int x1, .ref (E.2.2 504)] (fun r M2 => r = nI 1 ∧ post M2) := by
  refine ctW_of (L0 := [some (.ref (E.2.2 0)), some (.int x1), some (.ref (E.2.2 504)), none]) (by decide) rfl (Nat.le_of_ble_eq_true rfl) rfl ?_
  intro Z hl hE hnl F X ret
  subst hl hE
  refine jj_aload_n F dL_append_0 rfl ?_
  refine jj_iconst F (v := nI 0) dL_append_1 (by decide) ?_
  refine jj_aload_n F dL_append_2 rfl ?_
  refine jj_iload_n F dL_append_3 rfl ?_
  have hcat : CatchAt RL wh_append 4 12 eIA NcP := ⟨[], ⟨0, 9, 12, 13⟩, [⟨0, 9, 15, 15⟩], rfl, (fun z hz => by cases hz), by decide, by decide, lk_13, rfl⟩
  refine jj_catV (na := 1) F X hcat cst_IA hM (gl_V mk_L_17 vw_X8_append) rfl rfl rfl (by decide +kernel) ⟨Nat.le_of_ble_eq_true rfl, Nat.le_of_ble_eq_true rfl⟩ kd_0 rfl rfl rfl (Nat.le_of_ble_eq_true rfl) ⟨Nat.le_of_ble_eq_true rfl, Nat.le_of_ble_eq_true rfl⟩ dL_append_4 (fun M9 q9 hp9 => ?_)
  refine jj_astore_n F dL_append_12 (by rw [hnl]; decide) ?_
  refine jj_iconst F (v := nI 1) dL_append_13 (by decide) ?_
  refine ret _ _ _ _ dL_append_14 rfl ?_
  exact ⟨rfl, hp9⟩
set_option maxRecDepth 100000 in
theorem w_append_2 {l : Launch} {E : Ee} {M : Mm} {x1 : Int32} {post : Mm → Prop} (hM : CtT l E yX8_append (.code yX8_append cX8_append 2 (some .int) :: gl) RT M [.ref (E.2.2 0), .int x1] eIS post) : CtW l E yL_append (.codeWith yL_append cL_append 4 (some .int) wh_append :: gl) RW M [.ref (E.2.2 0), .int x1, .ref (E.2.2 504)] (fun r M2 => r = nI 2 ∧ post M2) := by
  refine ctW_of (L0 := [some (.ref (E.2.2 0)), some (.int x1), some (.ref (E.2.2 504)), none]) (by decide) rfl (Nat.le_of_ble_eq_true rfl) rfl ?_
  intro Z hl hE hnl F X ret
  subst hl hE
  refine jj_aload_n F dL_append_0 rfl ?_
  refine jj_iconst F (v := nI 0) dL_append_1 (by decide) ?_
  refine jj_aload_n F dL_append_2 rfl ?_
  refine jj_iload_n F dL_append_3 rfl ?_
  have hcat : CatchAt RL wh_append 4 15 eIS NcP := ⟨[⟨0, 9, 12, 13⟩], ⟨0, 9, 15, 15⟩, [], rfl, (fun z hz => by
    simp only [List.mem_cons, List.not_mem_nil, or_false] at hz
    rcases hz with rfl
    · exact Or.inr ⟨by decide, eIA, lk_13, Or.inr (Or.inr ⟨rfl, rfl⟩)⟩), by decide, by decide, lk_15, rfl⟩
  refine jj_catV (na := 1) F X hcat cst_IS hM (gl_V mk_L_17 vw_X8_append) rfl rfl rfl (by decide +kernel) ⟨Nat.le_of_ble_eq_true rfl, Nat.le_of_ble_eq_true rfl⟩ kd_0 rfl rfl rfl (Nat.le_of_ble_eq_true rfl) ⟨Nat.le_of_ble_eq_true rfl, Nat.le_of_ble_eq_true rfl⟩ dL_append_4 (fun M9 q9 hp9 => ?_)
  refine jj_astore_n F dL_append_15 (by rw [hnl]; decide) ?_
  refine jj_iconst F (v := nI 2) dL_append_16 (by decide) ?_
  refine ret _ _ _ _ dL_append_17 rfl ?_
  exact ⟨rfl, hp9⟩
abbrev wh_stroke : List (Nat × Nat × Nat × Nat) := [(0, 14, 17, 24), (0, 14, 21, 13), (0, 14, 25, 15)]
set_option maxRecDepth 100000 in
theorem w_stroke_0 {l : Launch} {E : Ee} {M : Mm} {x1 x2 x3 x4 : Int32} {post : Int32 → Mm → Prop} {rmy : Room} (hM : CtI l E yX8_stroke (.code yX8_stroke cX8_stroke 6 (some .int) :: gl) rmy M [.ref (E.2.2 0), .int x1, .int x2, .int x3, .int x4] 0 0 post) (h1 : rmy.frames ≤ 7) (h2 : rmy.locals ≤ 140) (h3 : rmy.cells = 0) (h4 : rmy.slots = 0) : CtW l E yL_stroke (.codeWith yL_stroke cL_stroke 7 (some .int) wh_stroke :: gl) RW M [.ref (E.2.2 0), .int x1, .int x2, .int x3, .int x4, .ref (E.2.2 504)] (fun r M2 => r = nI 0 ∧ ∃ v M1, post v M1 ∧ M2 = ouM M1 v) := by
  refine ctW_of (L0 := [some (.ref (E.2.2 0)), some (.int x1), some (.int x2), some (.int x3), some (.int x4), some (.ref (E.2.2 504)), none]) (by decide) rfl (Nat.le_of_ble_eq_true rfl) rfl ?_
  intro Z hl hE hnl F X ret
  subst hl hE
  refine jj_aload F dL_stroke_0 rfl ?_
  refine jj_iconst F (v := nI 0) dL_stroke_2 (by decide) ?_
  refine jj_aload_n F dL_stroke_3 rfl ?_
  refine jj_iload_n F dL_stroke_4 rfl ?_
  refine jj_iload_n F dL_stroke_5 rfl ?_
  refine jj_iload_n F dL_stroke_6 rfl ?_
  refine jj_iload F dL_stroke_7 rfl ?_
  refine jj_callVi (na := 4) F hM (gl_V mk_L_20 vw_X8_stroke) rfl h3 h4 (by decide +kernel) ⟨by show rmy.frames + 1 ≤ 8; omega, by show 8 + (6 + 11) + rmy.locals ≤ 170; omega⟩ kd_0 rfl rfl rfl (Nat.le_of_ble_eq_true rfl) ⟨Nat.le_of_ble_eq_true rfl, Nat.le_of_ble_eq_true rfl⟩ dL_stroke_9 (fun v9 M9 hp9 => ?_)
  refine jj_i2l F dL_stroke_12 ?_
  refine jj_last F kd_504 rfl (by omega) dL_stroke_13 ?_
  refine jj_goto F (tgt := 29) dL_stroke_14 (by decide) ?_
  refine jj_iconst F (v := nI 0) dL_stroke_29 (by decide) ?_
  refine jj_wid (κ2 := (1, 6)) (Nat.zero_le _) (Nat.zero_le _) ?_
  refine ret _ _ _ _ dL_stroke_30 rfl ?_
  exact ⟨rfl, v9, M9, hp9, rfl⟩
set_option maxRecDepth 100000 in
theorem w_stroke_1 {l : Launch} {E : Ee} {M : Mm} {x1 x2 x3 x4 : Int32} {post : Mm → Prop} (hM : CtT l E yX8_stroke (.code yX8_stroke cX8_stroke 6 (some .int) :: gl) RT M [.ref (E.2.2 0), .int x1, .int x2, .int x3, .int x4] eIX post) : CtW l E yL_stroke (.codeWith yL_stroke cL_stroke 7 (some .int) wh_stroke :: gl) RW M [.ref (E.2.2 0), .int x1, .int x2, .int x3, .int x4, .ref (E.2.2 504)] (fun r M2 => r = nI 1 ∧ post M2) := by
  refine ctW_of (L0 := [some (.ref (E.2.2 0)), some (.int x1), some (.int x2), some (.int x3), some (.int x4), some (.ref (E.2.2 504)), none]) (by decide) rfl (Nat.le_of_ble_eq_true rfl) rfl ?_
  intro Z hl hE hnl F X ret
  subst hl hE
  refine jj_aload F dL_stroke_0 rfl ?_
  refine jj_iconst F (v := nI 0) dL_stroke_2 (by decide) ?_
  refine jj_aload_n F dL_stroke_3 rfl ?_
  refine jj_iload_n F dL_stroke_4 rfl ?_
  refine jj_iload_n F dL_stroke_5 rfl ?_
  refine jj_iload_n F dL_stroke_6 rfl ?_
  refine jj_iload F dL_stroke_7 rfl ?_
  have hcat : CatchAt RL wh_stroke 9 17 eIX NcP := ⟨[], ⟨0, 14, 17, 24⟩, [⟨0, 14, 21, 13⟩, ⟨0, 14, 25, 15⟩], rfl, (fun z hz => by cases hz), by decide, by decide, lk_24, rfl⟩
  refine jj_catV (na := 4) F X hcat cst_IX hM (gl_V mk_L_20 vw_X8_stroke) rfl rfl rfl (by decide +kernel) ⟨Nat.le_of_ble_eq_true rfl, Nat.le_of_ble_eq_true rfl⟩ kd_0 rfl rfl rfl (Nat.le_of_ble_eq_true rfl) ⟨Nat.le_of_ble_eq_true rfl, Nat.le_of_ble_eq_true rfl⟩ dL_stroke_9 (fun M9 q9 hp9 => ?_)
  refine jj_astore F dL_stroke_17 (by rw [hnl]; decide) ?_
  refine jj_iconst F (v := nI 1) dL_stroke_19 (by decide) ?_
  refine ret _ _ _ _ dL_stroke_20 rfl ?_
  exact ⟨rfl, hp9⟩
set_option maxRecDepth 100000 in
theorem w_stroke_2 {l : Launch} {E : Ee} {M : Mm} {x1 x2 x3 x4 : Int32} {post : Mm → Prop} (hM : CtT l E yX8_stroke (.code yX8_stroke cX8_stroke 6 (some .int) :: gl) RT M [.ref (E.2.2 0), .int x1, .int x2, .int x3, .int x4] eIA post) : CtW l E yL_stroke (.codeWith yL_stroke cL_stroke 7 (some .int) wh_stroke :: gl) RW M [.ref (E.2.2 0), .int x1, .int x2, .int x3, .int x4, .ref (E.2.2 504)] (fun r M2 => r = nI 2 ∧ post M2) := by
  refine ctW_of (L0 := [some (.ref (E.2.2 0)), some (.int x1), some (.int x2), some (.int x3), some (.int x4), some (.ref (E.2.2 504)), none]) (by decide) rfl (Nat.le_of_ble_eq_true rfl) rfl ?_
  intro Z hl hE hnl F X ret
  subst hl hE
  refine jj_aload F dL_stroke_0 rfl ?_
  refine jj_iconst F (v := nI 0) dL_stroke_2 (by decide) ?_
  refine jj_aload_n F dL_stroke_3 rfl ?_
  refine jj_iload_n F dL_stroke_4 rfl ?_
  refine jj_iload_n F dL_stroke_5 rfl ?_
  refine jj_iload_n F dL_stroke_6 rfl ?_
  refine jj_iload F dL_stroke_7 rfl ?_
  have hcat : CatchAt RL wh_stroke 9 21 eIA NcP := ⟨[⟨0, 14, 17, 24⟩], ⟨0, 14, 21, 13⟩, [⟨0, 14, 25, 15⟩], rfl, (fun z hz => by
    simp only [List.mem_cons, List.not_mem_nil, or_false] at hz
    rcases hz with rfl
    · exact Or.inr ⟨by decide, eIX, lk_24, Or.inl ⟨rfl, rfl⟩⟩), by decide, by decide, lk_13, rfl⟩
  refine jj_catV (na := 4) F X hcat cst_IA hM (gl_V mk_L_20 vw_X8_stroke) rfl rfl rfl (by decide +kernel) ⟨Nat.le_of_ble_eq_true rfl, Nat.le_of_ble_eq_true rfl⟩ kd_0 rfl rfl rfl (Nat.le_of_ble_eq_true rfl) ⟨Nat.le_of_ble_eq_true rfl, Nat.le_of_ble_eq_true rfl⟩ dL_stroke_9 (fun M9 q9 hp9 => ?_)
  refine jj_astore F dL_stroke_21 (by rw [hnl]; decide) ?_
  refine jj_iconst F (v := nI 2) dL_stroke_23 (by decide) ?_
  refine ret _ _ _ _ dL_stroke_24 rfl ?_
  exact ⟨rfl, hp9⟩
set_option maxRecDepth 100000 in
theorem w_stroke_3 {l : Launch} {E : Ee} {M : Mm} {x1 x2 x3 x4 : Int32} {post : Mm → Prop} (hM : CtT l E yX8_stroke (.code yX8_stroke cX8_stroke 6 (some .int) :: gl) RT M [.ref (E.2.2 0), .int x1, .int x2, .int x3, .int x4] eIS post) : CtW l E yL_stroke (.codeWith yL_stroke cL_stroke 7 (some .int) wh_stroke :: gl) RW M [.ref (E.2.2 0), .int x1, .int x2, .int x3, .int x4, .ref (E.2.2 504)] (fun r M2 => r = nI 3 ∧ post M2) := by
  refine ctW_of (L0 := [some (.ref (E.2.2 0)), some (.int x1), some (.int x2), some (.int x3), some (.int x4), some (.ref (E.2.2 504)), none]) (by decide) rfl (Nat.le_of_ble_eq_true rfl) rfl ?_
  intro Z hl hE hnl F X ret
  subst hl hE
  refine jj_aload F dL_stroke_0 rfl ?_
  refine jj_iconst F (v := nI 0) dL_stroke_2 (by decide) ?_
  refine jj_aload_n F dL_stroke_3 rfl ?_
  refine jj_iload_n F dL_stroke_4 rfl ?_
  refine jj_iload_n F dL_stroke_5 rfl ?_
  refine jj_iload_n F dL_stroke_6 rfl ?_
  refine jj_iload F dL_stroke_7 rfl ?_
  have hcat : CatchAt RL wh_stroke 9 25 eIS NcP := ⟨[⟨0, 14, 17, 24⟩, ⟨0, 14, 21, 13⟩], ⟨0, 14, 25, 15⟩, [], rfl, (fun z hz => by
    simp only [List.mem_cons, List.not_mem_nil, or_false] at hz
    rcases hz with rfl | rfl
    · exact Or.inr ⟨by decide, eIX, lk_24, Or.inr (Or.inl ⟨rfl, rfl⟩)⟩
    · exact Or.inr ⟨by decide, eIA, lk_13, Or.inr (Or.inr ⟨rfl, rfl⟩)⟩), by decide, by decide, lk_15, rfl⟩
  refine jj_catV (na := 4) F X hcat cst_IS hM (gl_V mk_L_20 vw_X8_stroke) rfl rfl rfl (by decide +kernel) ⟨Nat.le_of_ble_eq_true rfl, Nat.le_of_ble_eq_true rfl⟩ kd_0 rfl rfl rfl (Nat.le_of_ble_eq_true rfl) ⟨Nat.le_of_ble_eq_true rfl, Nat.le_of_ble_eq_true rfl⟩ dL_stroke_9 (fun M9 q9 hp9 => ?_)
  refine jj_astore F dL_stroke_25 (by rw [hnl]; decide) ?_
  refine jj_iconst F (v := nI 3) dL_stroke_27 (by decide) ?_
  refine ret _ _ _ _ dL_stroke_28 rfl ?_
  exact ⟨rfl, hp9⟩
abbrev wh_erase : List (Nat × Nat × Nat × Nat) := [(0, 12, 15, 24), (0, 12, 19, 13), (0, 12, 23, 15)]
set_option maxRecDepth 100000 in
theorem w_erase_0 {l : Launch} {E : Ee} {M : Mm} {x1 x2 x3 : Int32} {post : Int32 → Mm → Prop} {rmy : Room} (hM : CtI l E yX8_erase (.code yX8_erase cX8_erase 5 (some .int) :: gl) rmy M [.ref (E.2.2 0), .int x1, .int x2, .int x3] 0 0 post) (h1 : rmy.frames ≤ 7) (h2 : rmy.locals ≤ 140) (h3 : rmy.cells = 0) (h4 : rmy.slots = 0) : CtW l E yL_erase (.codeWith yL_erase cL_erase 6 (some .int) wh_erase :: gl) RW M [.ref (E.2.2 0), .int x1, .int x2, .int x3, .ref (E.2.2 504)] (fun r M2 => r = nI 0 ∧ ∃ v M1, post v M1 ∧ M2 = ouM M1 v) := by
  refine ctW_of (L0 := [some (.ref (E.2.2 0)), some (.int x1), some (.int x2), some (.int x3), some (.ref (E.2.2 504)), none]) (by decide) rfl (Nat.le_of_ble_eq_true rfl) rfl ?_
  intro Z hl hE hnl F X ret
  subst hl hE
  refine jj_aload F dL_erase_0 rfl ?_
  refine jj_iconst F (v := nI 0) dL_erase_2 (by decide) ?_
  refine jj_aload_n F dL_erase_3 rfl ?_
  refine jj_iload_n F dL_erase_4 rfl ?_
  refine jj_iload_n F dL_erase_5 rfl ?_
  refine jj_iload_n F dL_erase_6 rfl ?_
  refine jj_callVi (na := 3) F hM (gl_V mk_L_26 vw_X8_erase) rfl h3 h4 (by decide +kernel) ⟨by show rmy.frames + 1 ≤ 8; omega, by show 8 + (5 + 11) + rmy.locals ≤ 170; omega⟩ kd_0 rfl rfl rfl (Nat.le_of_ble_eq_true rfl) ⟨Nat.le_of_ble_eq_true rfl, Nat.le_of_ble_eq_true rfl⟩ dL_erase_7 (fun v9 M9 hp9 => ?_)
  refine jj_i2l F dL_erase_10 ?_
  refine jj_last F kd_504 rfl (by omega) dL_erase_11 ?_
  refine jj_goto F (tgt := 27) dL_erase_12 (by decide) ?_
  refine jj_iconst F (v := nI 0) dL_erase_27 (by decide) ?_
  refine jj_wid (κ2 := (1, 6)) (Nat.zero_le _) (Nat.zero_le _) ?_
  refine ret _ _ _ _ dL_erase_28 rfl ?_
  exact ⟨rfl, v9, M9, hp9, rfl⟩
set_option maxRecDepth 100000 in
theorem w_erase_1 {l : Launch} {E : Ee} {M : Mm} {x1 x2 x3 : Int32} {post : Mm → Prop} (hM : CtT l E yX8_erase (.code yX8_erase cX8_erase 5 (some .int) :: gl) RT M [.ref (E.2.2 0), .int x1, .int x2, .int x3] eIX post) : CtW l E yL_erase (.codeWith yL_erase cL_erase 6 (some .int) wh_erase :: gl) RW M [.ref (E.2.2 0), .int x1, .int x2, .int x3, .ref (E.2.2 504)] (fun r M2 => r = nI 1 ∧ post M2) := by
  refine ctW_of (L0 := [some (.ref (E.2.2 0)), some (.int x1), some (.int x2), some (.int x3), some (.ref (E.2.2 504)), none]) (by decide) rfl (Nat.le_of_ble_eq_true rfl) rfl ?_
  intro Z hl hE hnl F X ret
  subst hl hE
  refine jj_aload F dL_erase_0 rfl ?_
  refine jj_iconst F (v := nI 0) dL_erase_2 (by decide) ?_
  refine jj_aload_n F dL_erase_3 rfl ?_
  refine jj_iload_n F dL_erase_4 rfl ?_
  refine jj_iload_n F dL_erase_5 rfl ?_
  refine jj_iload_n F dL_erase_6 rfl ?_
  have hcat : CatchAt RL wh_erase 7 15 eIX NcP := ⟨[], ⟨0, 12, 15, 24⟩, [⟨0, 12, 19, 13⟩, ⟨0, 12, 23, 15⟩], rfl, (fun z hz => by cases hz), by decide, by decide, lk_24, rfl⟩
  refine jj_catV (na := 3) F X hcat cst_IX hM (gl_V mk_L_26 vw_X8_erase) rfl rfl rfl (by decide +kernel) ⟨Nat.le_of_ble_eq_true rfl, Nat.le_of_ble_eq_true rfl⟩ kd_0 rfl rfl rfl (Nat.le_of_ble_eq_true rfl) ⟨Nat.le_of_ble_eq_true rfl, Nat.le_of_ble_eq_true rfl⟩ dL_erase_7 (fun M9 q9 hp9 => ?_)
  refine jj_astore F dL_erase_15 (by rw [hnl]; decide) ?_
  refine jj_iconst F (v := nI 1) dL_erase_17 (by decide) ?_
  refine ret _ _ _ _ dL_erase_18 rfl ?_
  exact ⟨rfl, hp9⟩
set_option maxRecDepth 100000 in
theorem w_erase_2 {l : Launch} {E : Ee} {M : Mm} {x1 x2 x3 : Int32} {post : Mm → Prop} (hM : CtT l E yX8_erase (.code yX8_erase cX8_erase 5 (some .int) :: gl) RT M [.ref (E.2.2 0), .int x1, .int x2, .int x3] eIA post) : CtW l E yL_erase (.codeWith yL_erase cL_erase 6 (some .int) wh_erase :: gl) RW M [.ref (E.2.2 0), .int x1, .int x2, .int x3, .ref (E.2.2 504)] (fun r M2 => r = nI 2 ∧ post M2) := by
  refine ctW_of (L0 := [some (.ref (E.2.2 0)), some (.int x1), some (.int x2), some (.int x3), some (.ref (E.2.2 504)), none]) (by decide) rfl (Nat.le_of_ble_eq_true rfl) rfl ?_
  intro Z hl hE hnl F X ret
  subst hl hE
  refine jj_aload F dL_erase_0 rfl ?_
  refine jj_iconst F (v := nI 0) dL_erase_2 (by decide) ?_
  refine jj_aload_n F dL_erase_3 rfl ?_
  refine jj_iload_n F dL_erase_4 rfl ?_
  refine jj_iload_n F dL_erase_5 rfl ?_
  refine jj_iload_n F dL_erase_6 rfl ?_
  have hcat : CatchAt RL wh_erase 7 19 eIA NcP := ⟨[⟨0, 12, 15, 24⟩], ⟨0, 12, 19, 13⟩, [⟨0, 12, 23, 15⟩], rfl, (fun z hz => by
    simp only [List.mem_cons, List.not_mem_nil, or_false] at hz
    rcases hz with rfl
    · exact Or.inr ⟨by decide, eIX, lk_24, Or.inl ⟨rfl, rfl⟩⟩), by decide, by decide, lk_13, rfl⟩
  refine jj_catV (na := 3) F X hcat cst_IA hM (gl_V mk_L_26 vw_X8_erase) rfl rfl rfl (by decide +kernel) ⟨Nat.le_of_ble_eq_true rfl, Nat.le_of_ble_eq_true rfl⟩ kd_0 rfl rfl rfl (Nat.le_of_ble_eq_true rfl) ⟨Nat.le_of_ble_eq_true rfl, Nat.le_of_ble_eq_true rfl⟩ dL_erase_7 (fun M9 q9 hp9 => ?_)
  refine jj_astore F dL_erase_19 (by rw [hnl]; decide) ?_
  refine jj_iconst F (v := nI 2) dL_erase_21 (by decide) ?_
  refine ret _ _ _ _ dL_erase_22 rfl ?_
  exact ⟨rfl, hp9⟩
set_option maxRecDepth 100000 in
theorem w_erase_3 {l : Launch} {E : Ee} {M : Mm} {x1 x2 x3 : Int32} {post : Mm → Prop} (hM : CtT l E yX8_erase (.code yX8_erase cX8_erase 5 (some .int) :: gl) RT M [.ref (E.2.2 0), .int x1, .int x2, .int x3] eIS post) : CtW l E yL_erase (.codeWith yL_erase cL_erase 6 (some .int) wh_erase :: gl) RW M [.ref (E.2.2 0), .int x1, .int x2, .int x3, .ref (E.2.2 504)] (fun r M2 => r = nI 3 ∧ post M2) := by
  refine ctW_of (L0 := [some (.ref (E.2.2 0)), some (.int x1), some (.int x2), some (.int x3), some (.ref (E.2.2 504)), none]) (by decide) rfl (Nat.le_of_ble_eq_true rfl) rfl ?_
  intro Z hl hE hnl F X ret
  subst hl hE
  refine jj_aload F dL_erase_0 rfl ?_
  refine jj_iconst F (v := nI 0) dL_erase_2 (by decide) ?_
  refine jj_aload_n F dL_erase_3 rfl ?_
  refine jj_iload_n F dL_erase_4 rfl ?_
  refine jj_iload_n F dL_erase_5 rfl ?_
  refine jj_iload_n F dL_erase_6 rfl ?_
  have hcat : CatchAt RL wh_erase 7 23 eIS NcP := ⟨[⟨0, 12, 15, 24⟩, ⟨0, 12, 19, 13⟩], ⟨0, 12, 23, 15⟩, [], rfl, (fun z hz => by
    simp only [List.mem_cons, List.not_mem_nil, or_false] at hz
    rcases hz with rfl | rfl
    · exact Or.inr ⟨by decide, eIX, lk_24, Or.inr (Or.inl ⟨rfl, rfl⟩)⟩
    · exact Or.inr ⟨by decide, eIA, lk_13, Or.inr (Or.inr ⟨rfl, rfl⟩)⟩), by decide, by decide, lk_15, rfl⟩
  refine jj_catV (na := 3) F X hcat cst_IS hM (gl_V mk_L_26 vw_X8_erase) rfl rfl rfl (by decide +kernel) ⟨Nat.le_of_ble_eq_true rfl, Nat.le_of_ble_eq_true rfl⟩ kd_0 rfl rfl rfl (Nat.le_of_ble_eq_true rfl) ⟨Nat.le_of_ble_eq_true rfl, Nat.le_of_ble_eq_true rfl⟩ dL_erase_7 (fun M9 q9 hp9 => ?_)
  refine jj_astore F dL_erase_23 (by rw [hnl]; decide) ?_
  refine jj_iconst F (v := nI 3) dL_erase_25 (by decide) ?_
  refine ret _ _ _ _ dL_erase_26 rfl ?_
  exact ⟨rfl, hp9⟩
abbrev wh_fill : List (Nat × Nat × Nat × Nat) := [(0, 14, 17, 24), (0, 14, 21, 13), (0, 14, 25, 15)]
set_option maxRecDepth 100000 in
theorem w_fill_0 {l : Launch} {E : Ee} {M : Mm} {x1 x2 x3 x4 : Int32} {post : Int32 → Mm → Prop} {rmy : Room} (hM : CtI l E yX8_fill (.code yX8_fill cX8_fill 6 (some .int) :: gl) rmy M [.ref (E.2.2 0), .int x1, .int x2, .int x3, .int x4] 0 0 post) (h1 : rmy.frames ≤ 7) (h2 : rmy.locals ≤ 140) (h3 : rmy.cells = 0) (h4 : rmy.slots = 0) : CtW l E yL_fill (.codeWith yL_fill cL_fill 7 (some .int) wh_fill :: gl) RW M [.ref (E.2.2 0), .int x1, .int x2, .int x3, .int x4, .ref (E.2.2 504)] (fun r M2 => r = nI 0 ∧ ∃ v M1, post v M1 ∧ M2 = ouM M1 v) := by
  refine ctW_of (L0 := [some (.ref (E.2.2 0)), some (.int x1), some (.int x2), some (.int x3), some (.int x4), some (.ref (E.2.2 504)), none]) (by decide) rfl (Nat.le_of_ble_eq_true rfl) rfl ?_
  intro Z hl hE hnl F X ret
  subst hl hE
  refine jj_aload F dL_fill_0 rfl ?_
  refine jj_iconst F (v := nI 0) dL_fill_2 (by decide) ?_
  refine jj_aload_n F dL_fill_3 rfl ?_
  refine jj_iload_n F dL_fill_4 rfl ?_
  refine jj_iload_n F dL_fill_5 rfl ?_
  refine jj_iload_n F dL_fill_6 rfl ?_
  refine jj_iload F dL_fill_7 rfl ?_
  refine jj_callVi (na := 4) F hM (gl_V mk_L_30 vw_X8_fill) rfl h3 h4 (by decide +kernel) ⟨by show rmy.frames + 1 ≤ 8; omega, by show 8 + (6 + 11) + rmy.locals ≤ 170; omega⟩ kd_0 rfl rfl rfl (Nat.le_of_ble_eq_true rfl) ⟨Nat.le_of_ble_eq_true rfl, Nat.le_of_ble_eq_true rfl⟩ dL_fill_9 (fun v9 M9 hp9 => ?_)
  refine jj_i2l F dL_fill_12 ?_
  refine jj_last F kd_504 rfl (by omega) dL_fill_13 ?_
  refine jj_goto F (tgt := 29) dL_fill_14 (by decide) ?_
  refine jj_iconst F (v := nI 0) dL_fill_29 (by decide) ?_
  refine jj_wid (κ2 := (1, 6)) (Nat.zero_le _) (Nat.zero_le _) ?_
  refine ret _ _ _ _ dL_fill_30 rfl ?_
  exact ⟨rfl, v9, M9, hp9, rfl⟩
set_option maxRecDepth 100000 in
theorem w_fill_1 {l : Launch} {E : Ee} {M : Mm} {x1 x2 x3 x4 : Int32} {post : Mm → Prop} (hM : CtT l E yX8_fill (.code yX8_fill cX8_fill 6 (some .int) :: gl) RT M [.ref (E.2.2 0), .int x1, .int x2, .int x3, .int x4] eIX post) : CtW l E yL_fill (.codeWith yL_fill cL_fill 7 (some .int) wh_fill :: gl) RW M [.ref (E.2.2 0), .int x1, .int x2, .int x3, .int x4, .ref (E.2.2 504)] (fun r M2 => r = nI 1 ∧ post M2) := by
  refine ctW_of (L0 := [some (.ref (E.2.2 0)), some (.int x1), some (.int x2), some (.int x3), some (.int x4), some (.ref (E.2.2 504)), none]) (by decide) rfl (Nat.le_of_ble_eq_true rfl) rfl ?_
  intro Z hl hE hnl F X ret
  subst hl hE
  refine jj_aload F dL_fill_0 rfl ?_
  refine jj_iconst F (v := nI 0) dL_fill_2 (by decide) ?_
  refine jj_aload_n F dL_fill_3 rfl ?_
  refine jj_iload_n F dL_fill_4 rfl ?_
  refine jj_iload_n F dL_fill_5 rfl ?_
  refine jj_iload_n F dL_fill_6 rfl ?_
  refine jj_iload F dL_fill_7 rfl ?_
  have hcat : CatchAt RL wh_fill 9 17 eIX NcP := ⟨[], ⟨0, 14, 17, 24⟩, [⟨0, 14, 21, 13⟩, ⟨0, 14, 25, 15⟩], rfl, (fun z hz => by cases hz), by decide, by decide, lk_24, rfl⟩
  refine jj_catV (na := 4) F X hcat cst_IX hM (gl_V mk_L_30 vw_X8_fill) rfl rfl rfl (by decide +kernel) ⟨Nat.le_of_ble_eq_true rfl, Nat.le_of_ble_eq_true rfl⟩ kd_0 rfl rfl rfl (Nat.le_of_ble_eq_true rfl) ⟨Nat.le_of_ble_eq_true rfl, Nat.le_of_ble_eq_true rfl⟩ dL_fill_9 (fun M9 q9 hp9 => ?_)
  refine jj_astore F dL_fill_17 (by rw [hnl]; decide) ?_
  refine jj_iconst F (v := nI 1) dL_fill_19 (by decide) ?_
  refine ret _ _ _ _ dL_fill_20 rfl ?_
  exact ⟨rfl, hp9⟩
set_option maxRecDepth 100000 in
theorem w_fill_2 {l : Launch} {E : Ee} {M : Mm} {x1 x2 x3 x4 : Int32} {post : Mm → Prop} (hM : CtT l E yX8_fill (.code yX8_fill cX8_fill 6 (some .int) :: gl) RT M [.ref (E.2.2 0), .int x1, .int x2, .int x3, .int x4] eIA post) : CtW l E yL_fill (.codeWith yL_fill cL_fill 7 (some .int) wh_fill :: gl) RW M [.ref (E.2.2 0), .int x1, .int x2, .int x3, .int x4, .ref (E.2.2 504)] (fun r M2 => r = nI 2 ∧ post M2) := by
  refine ctW_of (L0 := [some (.ref (E.2.2 0)), some (.int x1), some (.int x2), some (.int x3), some (.int x4), some (.ref (E.2.2 504)), none]) (by decide) rfl (Nat.le_of_ble_eq_true rfl) rfl ?_
  intro Z hl hE hnl F X ret
  subst hl hE
  refine jj_aload F dL_fill_0 rfl ?_
  refine jj_iconst F (v := nI 0) dL_fill_2 (by decide) ?_
  refine jj_aload_n F dL_fill_3 rfl ?_
  refine jj_iload_n F dL_fill_4 rfl ?_
  refine jj_iload_n F dL_fill_5 rfl ?_
  refine jj_iload_n F dL_fill_6 rfl ?_
  refine jj_iload F dL_fill_7 rfl ?_
  have hcat : CatchAt RL wh_fill 9 21 eIA NcP := ⟨[⟨0, 14, 17, 24⟩], ⟨0, 14, 21, 13⟩, [⟨0, 14, 25, 15⟩], rfl, (fun z hz => by
    simp only [List.mem_cons, List.not_mem_nil, or_false] at hz
    rcases hz with rfl
    · exact Or.inr ⟨by decide, eIX, lk_24, Or.inl ⟨rfl, rfl⟩⟩), by decide, by decide, lk_13, rfl⟩
  refine jj_catV (na := 4) F X hcat cst_IA hM (gl_V mk_L_30 vw_X8_fill) rfl rfl rfl (by decide +kernel) ⟨Nat.le_of_ble_eq_true rfl, Nat.le_of_ble_eq_true rfl⟩ kd_0 rfl rfl rfl (Nat.le_of_ble_eq_true rfl) ⟨Nat.le_of_ble_eq_true rfl, Nat.le_of_ble_eq_true rfl⟩ dL_fill_9 (fun M9 q9 hp9 => ?_)
  refine jj_astore F dL_fill_21 (by rw [hnl]; decide) ?_
  refine jj_iconst F (v := nI 2) dL_fill_23 (by decide) ?_
  refine ret _ _ _ _ dL_fill_24 rfl ?_
  exact ⟨rfl, hp9⟩
set_option maxRecDepth 100000 in
theorem w_fill_3 {l : Launch} {E : Ee} {M : Mm} {x1 x2 x3 x4 : Int32} {post : Mm → Prop} (hM : CtT l E yX8_fill (.code yX8_fill cX8_fill 6 (some .int) :: gl) RT M [.ref (E.2.2 0), .int x1, .int x2, .int x3, .int x4] eIS post) : CtW l E yL_fill (.codeWith yL_fill cL_fill 7 (some .int) wh_fill :: gl) RW M [.ref (E.2.2 0), .int x1, .int x2, .int x3, .int x4, .ref (E.2.2 504)] (fun r M2 => r = nI 3 ∧ post M2) := by
  refine ctW_of (L0 := [some (.ref (E.2.2 0)), some (.int x1), some (.int x2), some (.int x3), some (.int x4), some (.ref (E.2.2 504)), none]) (by decide) rfl (Nat.le_of_ble_eq_true rfl) rfl ?_
  intro Z hl hE hnl F X ret
  subst hl hE
  refine jj_aload F dL_fill_0 rfl ?_
  refine jj_iconst F (v := nI 0) dL_fill_2 (by decide) ?_
  refine jj_aload_n F dL_fill_3 rfl ?_
  refine jj_iload_n F dL_fill_4 rfl ?_
  refine jj_iload_n F dL_fill_5 rfl ?_
  refine jj_iload_n F dL_fill_6 rfl ?_
  refine jj_iload F dL_fill_7 rfl ?_
  have hcat : CatchAt RL wh_fill 9 25 eIS NcP := ⟨[⟨0, 14, 17, 24⟩, ⟨0, 14, 21, 13⟩], ⟨0, 14, 25, 15⟩, [], rfl, (fun z hz => by
    simp only [List.mem_cons, List.not_mem_nil, or_false] at hz
    rcases hz with rfl | rfl
    · exact Or.inr ⟨by decide, eIX, lk_24, Or.inr (Or.inl ⟨rfl, rfl⟩)⟩
    · exact Or.inr ⟨by decide, eIA, lk_13, Or.inr (Or.inr ⟨rfl, rfl⟩)⟩), by decide, by decide, lk_15, rfl⟩
  refine jj_catV (na := 4) F X hcat cst_IS hM (gl_V mk_L_30 vw_X8_fill) rfl rfl rfl (by decide +kernel) ⟨Nat.le_of_ble_eq_true rfl, Nat.le_of_ble_eq_true rfl⟩ kd_0 rfl rfl rfl (Nat.le_of_ble_eq_true rfl) ⟨Nat.le_of_ble_eq_true rfl, Nat.le_of_ble_eq_true rfl⟩ dL_fill_9 (fun M9 q9 hp9 => ?_)
  refine jj_astore F dL_fill_25 (by rw [hnl]; decide) ?_
  refine jj_iconst F (v := nI 3) dL_fill_27 (by decide) ?_
  refine ret _ _ _ _ dL_fill_28 rfl ?_
  exact ⟨rfl, hp9⟩
abbrev wh_undo : List (Nat × Nat × Nat × Nat) := [(0, 9, 12, 24), (0, 9, 15, 15)]
set_option maxRecDepth 100000 in
theorem w_undo_0 {l : Launch} {E : Ee} {M : Mm} {x1 : Int32} {post : Int32 → Mm → Prop} {rmy : Room} (hM : CtI l E yX8_undo (.code yX8_undo cX8_undo 3 (some .int) :: gl) rmy M [.ref (E.2.2 0), .int x1] 0 0 post) (h1 : rmy.frames ≤ 7) (h2 : rmy.locals ≤ 140) (h3 : rmy.cells = 0) (h4 : rmy.slots = 0) : CtW l E yL_undo (.codeWith yL_undo cL_undo 4 (some .int) wh_undo :: gl) RW M [.ref (E.2.2 0), .int x1, .ref (E.2.2 504)] (fun r M2 => r = nI 0 ∧ ∃ v M1, post v M1 ∧ M2 = ouM M1 v) := by
  refine ctW_of (L0 := [some (.ref (E.2.2 0)), some (.int x1), some (.ref (E.2.2 504)), none]) (by decide) rfl (Nat.le_of_ble_eq_true rfl) rfl ?_
  intro Z hl hE hnl F X ret
  subst hl hE
  refine jj_aload_n F dL_undo_0 rfl ?_
  refine jj_iconst F (v := nI 0) dL_undo_1 (by decide) ?_
  refine jj_aload_n F dL_undo_2 rfl ?_
  refine jj_iload_n F dL_undo_3 rfl ?_
  refine jj_callVi (na := 1) F hM (gl_V mk_L_33 vw_X8_undo) rfl h3 h4 (by decide +kernel) ⟨by show rmy.frames + 1 ≤ 8; omega, by show 8 + (3 + 11) + rmy.locals ≤ 170; omega⟩ kd_0 rfl rfl rfl (Nat.le_of_ble_eq_true rfl) ⟨Nat.le_of_ble_eq_true rfl, Nat.le_of_ble_eq_true rfl⟩ dL_undo_4 (fun v9 M9 hp9 => ?_)
  refine jj_i2l F dL_undo_7 ?_
  refine jj_last F kd_504 rfl (by omega) dL_undo_8 ?_
  refine jj_goto F (tgt := 18) dL_undo_9 (by decide) ?_
  refine jj_iconst F (v := nI 0) dL_undo_18 (by decide) ?_
  refine jj_wid (κ2 := (1, 6)) (Nat.zero_le _) (Nat.zero_le _) ?_
  refine ret _ _ _ _ dL_undo_19 rfl ?_
  exact ⟨rfl, v9, M9, hp9, rfl⟩
set_option maxRecDepth 100000 in
theorem w_undo_1 {l : Launch} {E : Ee} {M : Mm} {x1 : Int32} {post : Mm → Prop} (hM : CtT l E yX8_undo (.code yX8_undo cX8_undo 3 (some .int) :: gl) RT M [.ref (E.2.2 0), .int x1] eIX post) : CtW l E yL_undo (.codeWith yL_undo cL_undo 4 (some .int) wh_undo :: gl) RW M [.ref (E.2.2 0), .int x1, .ref (E.2.2 504)] (fun r M2 => r = nI 1 ∧ post M2) := by
  refine ctW_of (L0 := [some (.ref (E.2.2 0)), some (.int x1), some (.ref (E.2.2 504)), none]) (by decide) rfl (Nat.le_of_ble_eq_true rfl) rfl ?_
  intro Z hl hE hnl F X ret
  subst hl hE
  refine jj_aload_n F dL_undo_0 rfl ?_
  refine jj_iconst F (v := nI 0) dL_undo_1 (by decide) ?_
  refine jj_aload_n F dL_undo_2 rfl ?_
  refine jj_iload_n F dL_undo_3 rfl ?_
  have hcat : CatchAt RL wh_undo 4 12 eIX NcP := ⟨[], ⟨0, 9, 12, 24⟩, [⟨0, 9, 15, 15⟩], rfl, (fun z hz => by cases hz), by decide, by decide, lk_24, rfl⟩
  refine jj_catV (na := 1) F X hcat cst_IX hM (gl_V mk_L_33 vw_X8_undo) rfl rfl rfl (by decide +kernel) ⟨Nat.le_of_ble_eq_true rfl, Nat.le_of_ble_eq_true rfl⟩ kd_0 rfl rfl rfl (Nat.le_of_ble_eq_true rfl) ⟨Nat.le_of_ble_eq_true rfl, Nat.le_of_ble_eq_true rfl⟩ dL_undo_4 (fun M9 q9 hp9 => ?_)
  refine jj_astore_n F dL_undo_12 (by rw [hnl]; decide) ?_
  refine jj_iconst F (v := nI 1) dL_undo_13 (by decide) ?_
  refine ret _ _ _ _ dL_undo_14 rfl ?_
  exact ⟨rfl, hp9⟩
set_option maxRecDepth 100000 in
theorem w_undo_2 {l : Launch} {E : Ee} {M : Mm} {x1 : Int32} {post : Mm → Prop} (hM : CtT l E yX8_undo (.code yX8_undo cX8_undo 3 (some .int) :: gl) RT M [.ref (E.2.2 0), .int x1] eIS post) : CtW l E yL_undo (.codeWith yL_undo cL_undo 4 (some .int) wh_undo :: gl) RW M [.ref (E.2.2 0), .int x1, .ref (E.2.2 504)] (fun r M2 => r = nI 2 ∧ post M2) := by
  refine ctW_of (L0 := [some (.ref (E.2.2 0)), some (.int x1), some (.ref (E.2.2 504)), none]) (by decide) rfl (Nat.le_of_ble_eq_true rfl) rfl ?_
  intro Z hl hE hnl F X ret
  subst hl hE
  refine jj_aload_n F dL_undo_0 rfl ?_
  refine jj_iconst F (v := nI 0) dL_undo_1 (by decide) ?_
  refine jj_aload_n F dL_undo_2 rfl ?_
  refine jj_iload_n F dL_undo_3 rfl ?_
  have hcat : CatchAt RL wh_undo 4 15 eIS NcP := ⟨[⟨0, 9, 12, 24⟩], ⟨0, 9, 15, 15⟩, [], rfl, (fun z hz => by
    simp only [List.mem_cons, List.not_mem_nil, or_false] at hz
    rcases hz with rfl
    · exact Or.inr ⟨by decide, eIX, lk_24, Or.inr (Or.inl ⟨rfl, rfl⟩)⟩), by decide, by decide, lk_15, rfl⟩
  refine jj_catV (na := 1) F X hcat cst_IS hM (gl_V mk_L_33 vw_X8_undo) rfl rfl rfl (by decide +kernel) ⟨Nat.le_of_ble_eq_true rfl, Nat.le_of_ble_eq_true rfl⟩ kd_0 rfl rfl rfl (Nat.le_of_ble_eq_true rfl) ⟨Nat.le_of_ble_eq_true rfl, Nat.le_of_ble_eq_true rfl⟩ dL_undo_4 (fun M9 q9 hp9 => ?_)
  refine jj_astore_n F dL_undo_15 (by rw [hnl]; decide) ?_
  refine jj_iconst F (v := nI 2) dL_undo_16 (by decide) ?_
  refine ret _ _ _ _ dL_undo_17 rfl ?_
  exact ⟨rfl, hp9⟩
abbrev wh_redo : List (Nat × Nat × Nat × Nat) := [(0, 9, 12, 24), (0, 9, 15, 15)]
set_option maxRecDepth 100000 in
theorem w_redo_0 {l : Launch} {E : Ee} {M : Mm} {x1 : Int32} {post : Int32 → Mm → Prop} {rmy : Room} (hM : CtI l E yX8_redo (.code yX8_redo cX8_redo 3 (some .int) :: gl) rmy M [.ref (E.2.2 0), .int x1] 0 0 post) (h1 : rmy.frames ≤ 7) (h2 : rmy.locals ≤ 140) (h3 : rmy.cells = 0) (h4 : rmy.slots = 0) : CtW l E yL_redo (.codeWith yL_redo cL_redo 4 (some .int) wh_redo :: gl) RW M [.ref (E.2.2 0), .int x1, .ref (E.2.2 504)] (fun r M2 => r = nI 0 ∧ ∃ v M1, post v M1 ∧ M2 = ouM M1 v) := by
  refine ctW_of (L0 := [some (.ref (E.2.2 0)), some (.int x1), some (.ref (E.2.2 504)), none]) (by decide) rfl (Nat.le_of_ble_eq_true rfl) rfl ?_
  intro Z hl hE hnl F X ret
  subst hl hE
  refine jj_aload_n F dL_redo_0 rfl ?_
  refine jj_iconst F (v := nI 0) dL_redo_1 (by decide) ?_
  refine jj_aload_n F dL_redo_2 rfl ?_
  refine jj_iload_n F dL_redo_3 rfl ?_
  refine jj_callVi (na := 1) F hM (gl_V mk_L_36 vw_X8_redo) rfl h3 h4 (by decide +kernel) ⟨by show rmy.frames + 1 ≤ 8; omega, by show 8 + (3 + 11) + rmy.locals ≤ 170; omega⟩ kd_0 rfl rfl rfl (Nat.le_of_ble_eq_true rfl) ⟨Nat.le_of_ble_eq_true rfl, Nat.le_of_ble_eq_true rfl⟩ dL_redo_4 (fun v9 M9 hp9 => ?_)
  refine jj_i2l F dL_redo_7 ?_
  refine jj_last F kd_504 rfl (by omega) dL_redo_8 ?_
  refine jj_goto F (tgt := 18) dL_redo_9 (by decide) ?_
  refine jj_iconst F (v := nI 0) dL_redo_18 (by decide) ?_
  refine jj_wid (κ2 := (1, 6)) (Nat.zero_le _) (Nat.zero_le _) ?_
  refine ret _ _ _ _ dL_redo_19 rfl ?_
  exact ⟨rfl, v9, M9, hp9, rfl⟩
set_option maxRecDepth 100000 in
theorem w_redo_1 {l : Launch} {E : Ee} {M : Mm} {x1 : Int32} {post : Mm → Prop} (hM : CtT l E yX8_redo (.code yX8_redo cX8_redo 3 (some .int) :: gl) RT M [.ref (E.2.2 0), .int x1] eIX post) : CtW l E yL_redo (.codeWith yL_redo cL_redo 4 (some .int) wh_redo :: gl) RW M [.ref (E.2.2 0), .int x1, .ref (E.2.2 504)] (fun r M2 => r = nI 1 ∧ post M2) := by
  refine ctW_of (L0 := [some (.ref (E.2.2 0)), some (.int x1), some (.ref (E.2.2 504)), none]) (by decide) rfl (Nat.le_of_ble_eq_true rfl) rfl ?_
  intro Z hl hE hnl F X ret
  subst hl hE
  refine jj_aload_n F dL_redo_0 rfl ?_
  refine jj_iconst F (v := nI 0) dL_redo_1 (by decide) ?_
  refine jj_aload_n F dL_redo_2 rfl ?_
  refine jj_iload_n F dL_redo_3 rfl ?_
  have hcat : CatchAt RL wh_redo 4 12 eIX NcP := ⟨[], ⟨0, 9, 12, 24⟩, [⟨0, 9, 15, 15⟩], rfl, (fun z hz => by cases hz), by decide, by decide, lk_24, rfl⟩
  refine jj_catV (na := 1) F X hcat cst_IX hM (gl_V mk_L_36 vw_X8_redo) rfl rfl rfl (by decide +kernel) ⟨Nat.le_of_ble_eq_true rfl, Nat.le_of_ble_eq_true rfl⟩ kd_0 rfl rfl rfl (Nat.le_of_ble_eq_true rfl) ⟨Nat.le_of_ble_eq_true rfl, Nat.le_of_ble_eq_true rfl⟩ dL_redo_4 (fun M9 q9 hp9 => ?_)
  refine jj_astore_n F dL_redo_12 (by rw [hnl]; decide) ?_
  refine jj_iconst F (v := nI 1) dL_redo_13 (by decide) ?_
  refine ret _ _ _ _ dL_redo_14 rfl ?_
  exact ⟨rfl, hp9⟩
set_option maxRecDepth 100000 in
theorem w_redo_2 {l : Launch} {E : Ee} {M : Mm} {x1 : Int32} {post : Mm → Prop} (hM : CtT l E yX8_redo (.code yX8_redo cX8_redo 3 (some .int) :: gl) RT M [.ref (E.2.2 0), .int x1] eIS post) : CtW l E yL_redo (.codeWith yL_redo cL_redo 4 (some .int) wh_redo :: gl) RW M [.ref (E.2.2 0), .int x1, .ref (E.2.2 504)] (fun r M2 => r = nI 2 ∧ post M2) := by
  refine ctW_of (L0 := [some (.ref (E.2.2 0)), some (.int x1), some (.ref (E.2.2 504)), none]) (by decide) rfl (Nat.le_of_ble_eq_true rfl) rfl ?_
  intro Z hl hE hnl F X ret
  subst hl hE
  refine jj_aload_n F dL_redo_0 rfl ?_
  refine jj_iconst F (v := nI 0) dL_redo_1 (by decide) ?_
  refine jj_aload_n F dL_redo_2 rfl ?_
  refine jj_iload_n F dL_redo_3 rfl ?_
  have hcat : CatchAt RL wh_redo 4 15 eIS NcP := ⟨[⟨0, 9, 12, 24⟩], ⟨0, 9, 15, 15⟩, [], rfl, (fun z hz => by
    simp only [List.mem_cons, List.not_mem_nil, or_false] at hz
    rcases hz with rfl
    · exact Or.inr ⟨by decide, eIX, lk_24, Or.inr (Or.inl ⟨rfl, rfl⟩)⟩), by decide, by decide, lk_15, rfl⟩
  refine jj_catV (na := 1) F X hcat cst_IS hM (gl_V mk_L_36 vw_X8_redo) rfl rfl rfl (by decide +kernel) ⟨Nat.le_of_ble_eq_true rfl, Nat.le_of_ble_eq_true rfl⟩ kd_0 rfl rfl rfl (Nat.le_of_ble_eq_true rfl) ⟨Nat.le_of_ble_eq_true rfl, Nat.le_of_ble_eq_true rfl⟩ dL_redo_4 (fun M9 q9 hp9 => ?_)
  refine jj_astore_n F dL_redo_15 (by rw [hnl]; decide) ?_
  refine jj_iconst F (v := nI 2) dL_redo_16 (by decide) ?_
  refine ret _ _ _ _ dL_redo_17 rfl ?_
  exact ⟨rfl, hp9⟩
abbrev wh_lease : List (Nat × Nat × Nat × Nat) := [(0, 14, 17, 24), (0, 14, 21, 13)]
set_option maxRecDepth 100000 in
theorem w_lease_0 {l : Launch} {E : Ee} {M : Mm} {x1 x2 x3 x4 : Int32} {post : Int32 → Mm → Prop} {rmy : Room} (hM : CtI l E yX8_lease (.code yX8_lease cX8_lease 6 (some .int) :: gl) rmy M [.ref (E.2.2 0), .int x1, .int x2, .int x3, .int x4] 0 0 post) (h1 : rmy.frames ≤ 7) (h2 : rmy.locals ≤ 140) (h3 : rmy.cells = 0) (h4 : rmy.slots = 0) : CtW l E yL_lease (.codeWith yL_lease cL_lease 7 (some .int) wh_lease :: gl) RW M [.ref (E.2.2 0), .int x1, .int x2, .int x3, .int x4, .ref (E.2.2 504)] (fun r M2 => r = nI 0 ∧ ∃ v M1, post v M1 ∧ M2 = ouM M1 v) := by
  refine ctW_of (L0 := [some (.ref (E.2.2 0)), some (.int x1), some (.int x2), some (.int x3), some (.int x4), some (.ref (E.2.2 504)), none]) (by decide) rfl (Nat.le_of_ble_eq_true rfl) rfl ?_
  intro Z hl hE hnl F X ret
  subst hl hE
  refine jj_aload F dL_lease_0 rfl ?_
  refine jj_iconst F (v := nI 0) dL_lease_2 (by decide) ?_
  refine jj_aload_n F dL_lease_3 rfl ?_
  refine jj_iload_n F dL_lease_4 rfl ?_
  refine jj_iload_n F dL_lease_5 rfl ?_
  refine jj_iload_n F dL_lease_6 rfl ?_
  refine jj_iload F dL_lease_7 rfl ?_
  refine jj_callVi (na := 4) F hM (gl_V mk_L_39 vw_X8_lease) rfl h3 h4 (by decide +kernel) ⟨by show rmy.frames + 1 ≤ 8; omega, by show 8 + (6 + 11) + rmy.locals ≤ 170; omega⟩ kd_0 rfl rfl rfl (Nat.le_of_ble_eq_true rfl) ⟨Nat.le_of_ble_eq_true rfl, Nat.le_of_ble_eq_true rfl⟩ dL_lease_9 (fun v9 M9 hp9 => ?_)
  refine jj_i2l F dL_lease_12 ?_
  refine jj_last F kd_504 rfl (by omega) dL_lease_13 ?_
  refine jj_goto F (tgt := 25) dL_lease_14 (by decide) ?_
  refine jj_iconst F (v := nI 0) dL_lease_25 (by decide) ?_
  refine jj_wid (κ2 := (1, 6)) (Nat.zero_le _) (Nat.zero_le _) ?_
  refine ret _ _ _ _ dL_lease_26 rfl ?_
  exact ⟨rfl, v9, M9, hp9, rfl⟩
set_option maxRecDepth 100000 in
theorem w_lease_1 {l : Launch} {E : Ee} {M : Mm} {x1 x2 x3 x4 : Int32} {post : Mm → Prop} (hM : CtT l E yX8_lease (.code yX8_lease cX8_lease 6 (some .int) :: gl) RT M [.ref (E.2.2 0), .int x1, .int x2, .int x3, .int x4] eIX post) : CtW l E yL_lease (.codeWith yL_lease cL_lease 7 (some .int) wh_lease :: gl) RW M [.ref (E.2.2 0), .int x1, .int x2, .int x3, .int x4, .ref (E.2.2 504)] (fun r M2 => r = nI 1 ∧ post M2) := by
  refine ctW_of (L0 := [some (.ref (E.2.2 0)), some (.int x1), some (.int x2), some (.int x3), some (.int x4), some (.ref (E.2.2 504)), none]) (by decide) rfl (Nat.le_of_ble_eq_true rfl) rfl ?_
  intro Z hl hE hnl F X ret
  subst hl hE
  refine jj_aload F dL_lease_0 rfl ?_
  refine jj_iconst F (v := nI 0) dL_lease_2 (by decide) ?_
  refine jj_aload_n F dL_lease_3 rfl ?_
  refine jj_iload_n F dL_lease_4 rfl ?_
  refine jj_iload_n F dL_lease_5 rfl ?_
  refine jj_iload_n F dL_lease_6 rfl ?_
  refine jj_iload F dL_lease_7 rfl ?_
  have hcat : CatchAt RL wh_lease 9 17 eIX NcP := ⟨[], ⟨0, 14, 17, 24⟩, [⟨0, 14, 21, 13⟩], rfl, (fun z hz => by cases hz), by decide, by decide, lk_24, rfl⟩
  refine jj_catV (na := 4) F X hcat cst_IX hM (gl_V mk_L_39 vw_X8_lease) rfl rfl rfl (by decide +kernel) ⟨Nat.le_of_ble_eq_true rfl, Nat.le_of_ble_eq_true rfl⟩ kd_0 rfl rfl rfl (Nat.le_of_ble_eq_true rfl) ⟨Nat.le_of_ble_eq_true rfl, Nat.le_of_ble_eq_true rfl⟩ dL_lease_9 (fun M9 q9 hp9 => ?_)
  refine jj_astore F dL_lease_17 (by rw [hnl]; decide) ?_
  refine jj_iconst F (v := nI 1) dL_lease_19 (by decide) ?_
  refine ret _ _ _ _ dL_lease_20 rfl ?_
  exact ⟨rfl, hp9⟩
set_option maxRecDepth 100000 in
theorem w_lease_2 {l : Launch} {E : Ee} {M : Mm} {x1 x2 x3 x4 : Int32} {post : Mm → Prop} (hM : CtT l E yX8_lease (.code yX8_lease cX8_lease 6 (some .int) :: gl) RT M [.ref (E.2.2 0), .int x1, .int x2, .int x3, .int x4] eIA post) : CtW l E yL_lease (.codeWith yL_lease cL_lease 7 (some .int) wh_lease :: gl) RW M [.ref (E.2.2 0), .int x1, .int x2, .int x3, .int x4, .ref (E.2.2 504)] (fun r M2 => r = nI 2 ∧ post M2) := by
  refine ctW_of (L0 := [some (.ref (E.2.2 0)), some (.int x1), some (.int x2), some (.int x3), some (.int x4), some (.ref (E.2.2 504)), none]) (by decide) rfl (Nat.le_of_ble_eq_true rfl) rfl ?_
  intro Z hl hE hnl F X ret
  subst hl hE
  refine jj_aload F dL_lease_0 rfl ?_
  refine jj_iconst F (v := nI 0) dL_lease_2 (by decide) ?_
  refine jj_aload_n F dL_lease_3 rfl ?_
  refine jj_iload_n F dL_lease_4 rfl ?_
  refine jj_iload_n F dL_lease_5 rfl ?_
  refine jj_iload_n F dL_lease_6 rfl ?_
  refine jj_iload F dL_lease_7 rfl ?_
  have hcat : CatchAt RL wh_lease 9 21 eIA NcP := ⟨[⟨0, 14, 17, 24⟩], ⟨0, 14, 21, 13⟩, [], rfl, (fun z hz => by
    simp only [List.mem_cons, List.not_mem_nil, or_false] at hz
    rcases hz with rfl
    · exact Or.inr ⟨by decide, eIX, lk_24, Or.inl ⟨rfl, rfl⟩⟩), by decide, by decide, lk_13, rfl⟩
  refine jj_catV (na := 4) F X hcat cst_IA hM (gl_V mk_L_39 vw_X8_lease) rfl rfl rfl (by decide +kernel) ⟨Nat.le_of_ble_eq_true rfl, Nat.le_of_ble_eq_true rfl⟩ kd_0 rfl rfl rfl (Nat.le_of_ble_eq_true rfl) ⟨Nat.le_of_ble_eq_true rfl, Nat.le_of_ble_eq_true rfl⟩ dL_lease_9 (fun M9 q9 hp9 => ?_)
  refine jj_astore F dL_lease_21 (by rw [hnl]; decide) ?_
  refine jj_iconst F (v := nI 2) dL_lease_23 (by decide) ?_
  refine ret _ _ _ _ dL_lease_24 rfl ?_
  exact ⟨rfl, hp9⟩
abbrev wh_release : List (Nat × Nat × Nat × Nat) := [(0, 9, 12, 24)]
set_option maxRecDepth 100000 in
theorem w_release_0 {l : Launch} {E : Ee} {M : Mm} {x1 : Int32} {post : Int32 → Mm → Prop} {rmy : Room} (hM : CtI l E yX8_release (.code yX8_release cX8_release 2 (some .int) :: gl) rmy M [.ref (E.2.2 0), .int x1] 0 0 post) (h1 : rmy.frames ≤ 7) (h2 : rmy.locals ≤ 140) (h3 : rmy.cells = 0) (h4 : rmy.slots = 0) : CtW l E yL_release (.codeWith yL_release cL_release 4 (some .int) wh_release :: gl) RW M [.ref (E.2.2 0), .int x1, .ref (E.2.2 504)] (fun r M2 => r = nI 0 ∧ ∃ v M1, post v M1 ∧ M2 = ouM M1 v) := by
  refine ctW_of (L0 := [some (.ref (E.2.2 0)), some (.int x1), some (.ref (E.2.2 504)), none]) (by decide) rfl (Nat.le_of_ble_eq_true rfl) rfl ?_
  intro Z hl hE hnl F X ret
  subst hl hE
  refine jj_aload_n F dL_release_0 rfl ?_
  refine jj_iconst F (v := nI 0) dL_release_1 (by decide) ?_
  refine jj_aload_n F dL_release_2 rfl ?_
  refine jj_iload_n F dL_release_3 rfl ?_
  refine jj_callVi (na := 1) F hM (gl_V mk_L_42 vw_X8_release) rfl h3 h4 (by decide +kernel) ⟨by show rmy.frames + 1 ≤ 8; omega, by show 8 + (2 + 11) + rmy.locals ≤ 170; omega⟩ kd_0 rfl rfl rfl (Nat.le_of_ble_eq_true rfl) ⟨Nat.le_of_ble_eq_true rfl, Nat.le_of_ble_eq_true rfl⟩ dL_release_4 (fun v9 M9 hp9 => ?_)
  refine jj_i2l F dL_release_7 ?_
  refine jj_last F kd_504 rfl (by omega) dL_release_8 ?_
  refine jj_goto F (tgt := 15) dL_release_9 (by decide) ?_
  refine jj_iconst F (v := nI 0) dL_release_15 (by decide) ?_
  refine jj_wid (κ2 := (1, 6)) (Nat.zero_le _) (Nat.zero_le _) ?_
  refine ret _ _ _ _ dL_release_16 rfl ?_
  exact ⟨rfl, v9, M9, hp9, rfl⟩
set_option maxRecDepth 100000 in
theorem w_release_1 {l : Launch} {E : Ee} {M : Mm} {x1 : Int32} {post : Mm → Prop} (hM : CtT l E yX8_release (.code yX8_release cX8_release 2 (some .int) :: gl) RT M [.ref (E.2.2 0), .int x1] eIX post) : CtW l E yL_release (.codeWith yL_release cL_release 4 (some .int) wh_release :: gl) RW M [.ref (E.2.2 0), .int x1, .ref (E.2.2 504)] (fun r M2 => r = nI 1 ∧ post M2) := by
  refine ctW_of (L0 := [some (.ref (E.2.2 0)), some (.int x1), some (.ref (E.2.2 504)), none]) (by decide) rfl (Nat.le_of_ble_eq_true rfl) rfl ?_
  intro Z hl hE hnl F X ret
  subst hl hE
  refine jj_aload_n F dL_release_0 rfl ?_
  refine jj_iconst F (v := nI 0) dL_release_1 (by decide) ?_
  refine jj_aload_n F dL_release_2 rfl ?_
  refine jj_iload_n F dL_release_3 rfl ?_
  have hcat : CatchAt RL wh_release 4 12 eIX NcP := ⟨[], ⟨0, 9, 12, 24⟩, [], rfl, (fun z hz => by cases hz), by decide, by decide, lk_24, rfl⟩
  refine jj_catV (na := 1) F X hcat cst_IX hM (gl_V mk_L_42 vw_X8_release) rfl rfl rfl (by decide +kernel) ⟨Nat.le_of_ble_eq_true rfl, Nat.le_of_ble_eq_true rfl⟩ kd_0 rfl rfl rfl (Nat.le_of_ble_eq_true rfl) ⟨Nat.le_of_ble_eq_true rfl, Nat.le_of_ble_eq_true rfl⟩ dL_release_4 (fun M9 q9 hp9 => ?_)
  refine jj_astore_n F dL_release_12 (by rw [hnl]; decide) ?_
  refine jj_iconst F (v := nI 1) dL_release_13 (by decide) ?_
  refine ret _ _ _ _ dL_release_14 rfl ?_
  exact ⟨rfl, hp9⟩
abbrev wh_holder : List (Nat × Nat × Nat × Nat) := [(0, 9, 12, 24)]
set_option maxRecDepth 100000 in
theorem w_holder_0 {l : Launch} {E : Ee} {M : Mm} {x1 : Int32} {post : Int32 → Mm → Prop} {rmy : Room} (hM : CtI l E yX8_holder (.code yX8_holder cX8_holder 2 (some .int) :: gl) rmy M [.ref (E.2.2 0), .int x1] 0 0 post) (h1 : rmy.frames ≤ 7) (h2 : rmy.locals ≤ 140) (h3 : rmy.cells = 0) (h4 : rmy.slots = 0) : CtW l E yL_holder (.codeWith yL_holder cL_holder 4 (some .int) wh_holder :: gl) RW M [.ref (E.2.2 0), .int x1, .ref (E.2.2 504)] (fun r M2 => r = nI 0 ∧ ∃ v M1, post v M1 ∧ M2 = ouM M1 v) := by
  refine ctW_of (L0 := [some (.ref (E.2.2 0)), some (.int x1), some (.ref (E.2.2 504)), none]) (by decide) rfl (Nat.le_of_ble_eq_true rfl) rfl ?_
  intro Z hl hE hnl F X ret
  subst hl hE
  refine jj_aload_n F dL_holder_0 rfl ?_
  refine jj_iconst F (v := nI 0) dL_holder_1 (by decide) ?_
  refine jj_aload_n F dL_holder_2 rfl ?_
  refine jj_iload_n F dL_holder_3 rfl ?_
  refine jj_callVi (na := 1) F hM (gl_V mk_L_45 vw_X8_holder) rfl h3 h4 (by decide +kernel) ⟨by show rmy.frames + 1 ≤ 8; omega, by show 8 + (2 + 11) + rmy.locals ≤ 170; omega⟩ kd_0 rfl rfl rfl (Nat.le_of_ble_eq_true rfl) ⟨Nat.le_of_ble_eq_true rfl, Nat.le_of_ble_eq_true rfl⟩ dL_holder_4 (fun v9 M9 hp9 => ?_)
  refine jj_i2l F dL_holder_7 ?_
  refine jj_last F kd_504 rfl (by omega) dL_holder_8 ?_
  refine jj_goto F (tgt := 15) dL_holder_9 (by decide) ?_
  refine jj_iconst F (v := nI 0) dL_holder_15 (by decide) ?_
  refine jj_wid (κ2 := (1, 6)) (Nat.zero_le _) (Nat.zero_le _) ?_
  refine ret _ _ _ _ dL_holder_16 rfl ?_
  exact ⟨rfl, v9, M9, hp9, rfl⟩
set_option maxRecDepth 100000 in
theorem w_holder_1 {l : Launch} {E : Ee} {M : Mm} {x1 : Int32} {post : Mm → Prop} (hM : CtT l E yX8_holder (.code yX8_holder cX8_holder 2 (some .int) :: gl) RT M [.ref (E.2.2 0), .int x1] eIX post) : CtW l E yL_holder (.codeWith yL_holder cL_holder 4 (some .int) wh_holder :: gl) RW M [.ref (E.2.2 0), .int x1, .ref (E.2.2 504)] (fun r M2 => r = nI 1 ∧ post M2) := by
  refine ctW_of (L0 := [some (.ref (E.2.2 0)), some (.int x1), some (.ref (E.2.2 504)), none]) (by decide) rfl (Nat.le_of_ble_eq_true rfl) rfl ?_
  intro Z hl hE hnl F X ret
  subst hl hE
  refine jj_aload_n F dL_holder_0 rfl ?_
  refine jj_iconst F (v := nI 0) dL_holder_1 (by decide) ?_
  refine jj_aload_n F dL_holder_2 rfl ?_
  refine jj_iload_n F dL_holder_3 rfl ?_
  have hcat : CatchAt RL wh_holder 4 12 eIX NcP := ⟨[], ⟨0, 9, 12, 24⟩, [], rfl, (fun z hz => by cases hz), by decide, by decide, lk_24, rfl⟩
  refine jj_catV (na := 1) F X hcat cst_IX hM (gl_V mk_L_45 vw_X8_holder) rfl rfl rfl (by decide +kernel) ⟨Nat.le_of_ble_eq_true rfl, Nat.le_of_ble_eq_true rfl⟩ kd_0 rfl rfl rfl (Nat.le_of_ble_eq_true rfl) ⟨Nat.le_of_ble_eq_true rfl, Nat.le_of_ble_eq_true rfl⟩ dL_holder_4 (fun M9 q9 hp9 => ?_)
  refine jj_astore_n F dL_holder_12 (by rw [hnl]; decide) ?_
  refine jj_iconst F (v := nI 1) dL_holder_13 (by decide) ?_
  refine ret _ _ _ _ dL_holder_14 rfl ?_
  exact ⟨rfl, hp9⟩
abbrev wh_setMark : List (Nat × Nat × Nat × Nat) := [(0, 9, 12, 24)]
set_option maxRecDepth 100000 in
theorem w_setMark_0 {l : Launch} {E : Ee} {M : Mm} {x1 : Int32} {post : Int32 → Mm → Prop} {rmy : Room} (hM : CtI l E yX8_setMark (.code yX8_setMark cX8_setMark 2 (some .int) :: gl) rmy M [.ref (E.2.2 0), .int x1] 0 0 post) (h1 : rmy.frames ≤ 7) (h2 : rmy.locals ≤ 140) (h3 : rmy.cells = 0) (h4 : rmy.slots = 0) : CtW l E yL_setMark (.codeWith yL_setMark cL_setMark 4 (some .int) wh_setMark :: gl) RW M [.ref (E.2.2 0), .int x1, .ref (E.2.2 504)] (fun r M2 => r = nI 0 ∧ ∃ v M1, post v M1 ∧ M2 = ouM M1 v) := by
  refine ctW_of (L0 := [some (.ref (E.2.2 0)), some (.int x1), some (.ref (E.2.2 504)), none]) (by decide) rfl (Nat.le_of_ble_eq_true rfl) rfl ?_
  intro Z hl hE hnl F X ret
  subst hl hE
  refine jj_aload_n F dL_setMark_0 rfl ?_
  refine jj_iconst F (v := nI 0) dL_setMark_1 (by decide) ?_
  refine jj_aload_n F dL_setMark_2 rfl ?_
  refine jj_iload_n F dL_setMark_3 rfl ?_
  refine jj_callVi (na := 1) F hM (gl_V mk_L_48 vw_X8_setMark) rfl h3 h4 (by decide +kernel) ⟨by show rmy.frames + 1 ≤ 8; omega, by show 8 + (2 + 11) + rmy.locals ≤ 170; omega⟩ kd_0 rfl rfl rfl (Nat.le_of_ble_eq_true rfl) ⟨Nat.le_of_ble_eq_true rfl, Nat.le_of_ble_eq_true rfl⟩ dL_setMark_4 (fun v9 M9 hp9 => ?_)
  refine jj_i2l F dL_setMark_7 ?_
  refine jj_last F kd_504 rfl (by omega) dL_setMark_8 ?_
  refine jj_goto F (tgt := 15) dL_setMark_9 (by decide) ?_
  refine jj_iconst F (v := nI 0) dL_setMark_15 (by decide) ?_
  refine jj_wid (κ2 := (1, 6)) (Nat.zero_le _) (Nat.zero_le _) ?_
  refine ret _ _ _ _ dL_setMark_16 rfl ?_
  exact ⟨rfl, v9, M9, hp9, rfl⟩
set_option maxRecDepth 100000 in
theorem w_setMark_1 {l : Launch} {E : Ee} {M : Mm} {x1 : Int32} {post : Mm → Prop} (hM : CtT l E yX8_setMark (.code yX8_setMark cX8_setMark 2 (some .int) :: gl) RT M [.ref (E.2.2 0), .int x1] eIX post) : CtW l E yL_setMark (.codeWith yL_setMark cL_setMark 4 (some .int) wh_setMark :: gl) RW M [.ref (E.2.2 0), .int x1, .ref (E.2.2 504)] (fun r M2 => r = nI 1 ∧ post M2) := by
  refine ctW_of (L0 := [some (.ref (E.2.2 0)), some (.int x1), some (.ref (E.2.2 504)), none]) (by decide) rfl (Nat.le_of_ble_eq_true rfl) rfl ?_
  intro Z hl hE hnl F X ret
  subst hl hE
  refine jj_aload_n F dL_setMark_0 rfl ?_
  refine jj_iconst F (v := nI 0) dL_setMark_1 (by decide) ?_
  refine jj_aload_n F dL_setMark_2 rfl ?_
  refine jj_iload_n F dL_setMark_3 rfl ?_
  have hcat : CatchAt RL wh_setMark 4 12 eIX NcP := ⟨[], ⟨0, 9, 12, 24⟩, [], rfl, (fun z hz => by cases hz), by decide, by decide, lk_24, rfl⟩
  refine jj_catV (na := 1) F X hcat cst_IX hM (gl_V mk_L_48 vw_X8_setMark) rfl rfl rfl (by decide +kernel) ⟨Nat.le_of_ble_eq_true rfl, Nat.le_of_ble_eq_true rfl⟩ kd_0 rfl rfl rfl (Nat.le_of_ble_eq_true rfl) ⟨Nat.le_of_ble_eq_true rfl, Nat.le_of_ble_eq_true rfl⟩ dL_setMark_4 (fun M9 q9 hp9 => ?_)
  refine jj_astore_n F dL_setMark_12 (by rw [hnl]; decide) ?_
  refine jj_iconst F (v := nI 1) dL_setMark_13 (by decide) ?_
  refine ret _ _ _ _ dL_setMark_14 rfl ?_
  exact ⟨rfl, hp9⟩
abbrev wh_replay : List (Nat × Nat × Nat × Nat) := [(0, 10, 13, 24), (0, 10, 17, 15)]
set_option maxRecDepth 100000 in
theorem w_replay_0 {l : Launch} {E : Ee} {M : Mm} {x1 x2 : Int32} {post : Int32 → Mm → Prop} {rmy : Room} (hM : CtI l E yX8_replay (.code yX8_replay cX8_replay 3 (some .int) :: gl) rmy M [.ref (E.2.2 0), .int x1, .int x2] 0 0 post) (h1 : rmy.frames ≤ 7) (h2 : rmy.locals ≤ 140) (h3 : rmy.cells = 0) (h4 : rmy.slots = 0) : CtW l E yL_replay (.codeWith yL_replay cL_replay 5 (some .int) wh_replay :: gl) RW M [.ref (E.2.2 0), .int x1, .int x2, .ref (E.2.2 504)] (fun r M2 => r = nI 0 ∧ ∃ v M1, post v M1 ∧ M2 = ouM M1 v) := by
  refine ctW_of (L0 := [some (.ref (E.2.2 0)), some (.int x1), some (.int x2), some (.ref (E.2.2 504)), none]) (by decide) rfl (Nat.le_of_ble_eq_true rfl) rfl ?_
  intro Z hl hE hnl F X ret
  subst hl hE
  refine jj_aload_n F dL_replay_0 rfl ?_
  refine jj_iconst F (v := nI 0) dL_replay_1 (by decide) ?_
  refine jj_aload_n F dL_replay_2 rfl ?_
  refine jj_iload_n F dL_replay_3 rfl ?_
  refine jj_iload_n F dL_replay_4 rfl ?_
  refine jj_callVi (na := 2) F hM (gl_V mk_L_51 vw_X8_replay) rfl h3 h4 (by decide +kernel) ⟨by show rmy.frames + 1 ≤ 8; omega, by show 8 + (3 + 11) + rmy.locals ≤ 170; omega⟩ kd_0 rfl rfl rfl (Nat.le_of_ble_eq_true rfl) ⟨Nat.le_of_ble_eq_true rfl, Nat.le_of_ble_eq_true rfl⟩ dL_replay_5 (fun v9 M9 hp9 => ?_)
  refine jj_i2l F dL_replay_8 ?_
  refine jj_last F kd_504 rfl (by omega) dL_replay_9 ?_
  refine jj_goto F (tgt := 21) dL_replay_10 (by decide) ?_
  refine jj_iconst F (v := nI 0) dL_replay_21 (by decide) ?_
  refine jj_wid (κ2 := (1, 6)) (Nat.zero_le _) (Nat.zero_le _) ?_
  refine ret _ _ _ _ dL_replay_22 rfl ?_
  exact ⟨rfl, v9, M9, hp9, rfl⟩
set_option maxRecDepth 100000 in
theorem w_replay_1 {l : Launch} {E : Ee} {M : Mm} {x1 x2 : Int32} {post : Mm → Prop} (hM : CtT l E yX8_replay (.code yX8_replay cX8_replay 3 (some .int) :: gl) RT M [.ref (E.2.2 0), .int x1, .int x2] eIX post) : CtW l E yL_replay (.codeWith yL_replay cL_replay 5 (some .int) wh_replay :: gl) RW M [.ref (E.2.2 0), .int x1, .int x2, .ref (E.2.2 504)] (fun r M2 => r = nI 1 ∧ post M2) := by
  refine ctW_of (L0 := [some (.ref (E.2.2 0)), some (.int x1), some (.int x2), some (.ref (E.2.2 504)), none]) (by decide) rfl (Nat.le_of_ble_eq_true rfl) rfl ?_
  intro Z hl hE hnl F X ret
  subst hl hE
  refine jj_aload_n F dL_replay_0 rfl ?_
  refine jj_iconst F (v := nI 0) dL_replay_1 (by decide) ?_
  refine jj_aload_n F dL_replay_2 rfl ?_
  refine jj_iload_n F dL_replay_3 rfl ?_
  refine jj_iload_n F dL_replay_4 rfl ?_
  have hcat : CatchAt RL wh_replay 5 13 eIX NcP := ⟨[], ⟨0, 10, 13, 24⟩, [⟨0, 10, 17, 15⟩], rfl, (fun z hz => by cases hz), by decide, by decide, lk_24, rfl⟩
  refine jj_catV (na := 2) F X hcat cst_IX hM (gl_V mk_L_51 vw_X8_replay) rfl rfl rfl (by decide +kernel) ⟨Nat.le_of_ble_eq_true rfl, Nat.le_of_ble_eq_true rfl⟩ kd_0 rfl rfl rfl (Nat.le_of_ble_eq_true rfl) ⟨Nat.le_of_ble_eq_true rfl, Nat.le_of_ble_eq_true rfl⟩ dL_replay_5 (fun M9 q9 hp9 => ?_)
  refine jj_astore F dL_replay_13 (by rw [hnl]; decide) ?_
  refine jj_iconst F (v := nI 1) dL_replay_15 (by decide) ?_
  refine ret _ _ _ _ dL_replay_16 rfl ?_
  exact ⟨rfl, hp9⟩
set_option maxRecDepth 100000 in
theorem w_replay_2 {l : Launch} {E : Ee} {M : Mm} {x1 x2 : Int32} {post : Mm → Prop} (hM : CtT l E yX8_replay (.code yX8_replay cX8_replay 3 (some .int) :: gl) RT M [.ref (E.2.2 0), .int x1, .int x2] eIS post) : CtW l E yL_replay (.codeWith yL_replay cL_replay 5 (some .int) wh_replay :: gl) RW M [.ref (E.2.2 0), .int x1, .int x2, .ref (E.2.2 504)] (fun r M2 => r = nI 2 ∧ post M2) := by
  refine ctW_of (L0 := [some (.ref (E.2.2 0)), some (.int x1), some (.int x2), some (.ref (E.2.2 504)), none]) (by decide) rfl (Nat.le_of_ble_eq_true rfl) rfl ?_
  intro Z hl hE hnl F X ret
  subst hl hE
  refine jj_aload_n F dL_replay_0 rfl ?_
  refine jj_iconst F (v := nI 0) dL_replay_1 (by decide) ?_
  refine jj_aload_n F dL_replay_2 rfl ?_
  refine jj_iload_n F dL_replay_3 rfl ?_
  refine jj_iload_n F dL_replay_4 rfl ?_
  have hcat : CatchAt RL wh_replay 5 17 eIS NcP := ⟨[⟨0, 10, 13, 24⟩], ⟨0, 10, 17, 15⟩, [], rfl, (fun z hz => by
    simp only [List.mem_cons, List.not_mem_nil, or_false] at hz
    rcases hz with rfl
    · exact Or.inr ⟨by decide, eIX, lk_24, Or.inr (Or.inl ⟨rfl, rfl⟩)⟩), by decide, by decide, lk_15, rfl⟩
  refine jj_catV (na := 2) F X hcat cst_IS hM (gl_V mk_L_51 vw_X8_replay) rfl rfl rfl (by decide +kernel) ⟨Nat.le_of_ble_eq_true rfl, Nat.le_of_ble_eq_true rfl⟩ kd_0 rfl rfl rfl (Nat.le_of_ble_eq_true rfl) ⟨Nat.le_of_ble_eq_true rfl, Nat.le_of_ble_eq_true rfl⟩ dL_replay_5 (fun M9 q9 hp9 => ?_)
  refine jj_astore F dL_replay_17 (by rw [hnl]; decide) ?_
  refine jj_iconst F (v := nI 2) dL_replay_19 (by decide) ?_
  refine ret _ _ _ _ dL_replay_20 rfl ?_
  exact ⟨rfl, hp9⟩
abbrev wh_difference : List (Nat × Nat × Nat × Nat) := [(0, 9, 12, 24), (0, 9, 15, 15)]
set_option maxRecDepth 100000 in
theorem w_difference_0 {l : Launch} {E : Ee} {M : Mm} {x1 : Int32} {post : Int32 → Mm → Prop} {rmy : Room} (hM : CtI l E yX8_difference (.code yX8_difference cX8_difference 2 (some .int) :: gl) rmy M [.ref (E.2.2 0), .int x1] 0 0 post) (h1 : rmy.frames ≤ 7) (h2 : rmy.locals ≤ 140) (h3 : rmy.cells = 0) (h4 : rmy.slots = 0) : CtW l E yL_difference (.codeWith yL_difference cL_difference 4 (some .int) wh_difference :: gl) RW M [.ref (E.2.2 0), .int x1, .ref (E.2.2 504)] (fun r M2 => r = nI 0 ∧ ∃ v M1, post v M1 ∧ M2 = ouM M1 v) := by
  refine ctW_of (L0 := [some (.ref (E.2.2 0)), some (.int x1), some (.ref (E.2.2 504)), none]) (by decide) rfl (Nat.le_of_ble_eq_true rfl) rfl ?_
  intro Z hl hE hnl F X ret
  subst hl hE
  refine jj_aload_n F dL_difference_0 rfl ?_
  refine jj_iconst F (v := nI 0) dL_difference_1 (by decide) ?_
  refine jj_aload_n F dL_difference_2 rfl ?_
  refine jj_iload_n F dL_difference_3 rfl ?_
  refine jj_callVi (na := 1) F hM (gl_V mk_L_55 vw_X8_difference) rfl h3 h4 (by decide +kernel) ⟨by show rmy.frames + 1 ≤ 8; omega, by show 8 + (2 + 11) + rmy.locals ≤ 170; omega⟩ kd_0 rfl rfl rfl (Nat.le_of_ble_eq_true rfl) ⟨Nat.le_of_ble_eq_true rfl, Nat.le_of_ble_eq_true rfl⟩ dL_difference_4 (fun v9 M9 hp9 => ?_)
  refine jj_i2l F dL_difference_7 ?_
  refine jj_last F kd_504 rfl (by omega) dL_difference_8 ?_
  refine jj_goto F (tgt := 18) dL_difference_9 (by decide) ?_
  refine jj_iconst F (v := nI 0) dL_difference_18 (by decide) ?_
  refine jj_wid (κ2 := (1, 6)) (Nat.zero_le _) (Nat.zero_le _) ?_
  refine ret _ _ _ _ dL_difference_19 rfl ?_
  exact ⟨rfl, v9, M9, hp9, rfl⟩
set_option maxRecDepth 100000 in
theorem w_difference_1 {l : Launch} {E : Ee} {M : Mm} {x1 : Int32} {post : Mm → Prop} (hM : CtT l E yX8_difference (.code yX8_difference cX8_difference 2 (some .int) :: gl) RT M [.ref (E.2.2 0), .int x1] eIX post) : CtW l E yL_difference (.codeWith yL_difference cL_difference 4 (some .int) wh_difference :: gl) RW M [.ref (E.2.2 0), .int x1, .ref (E.2.2 504)] (fun r M2 => r = nI 1 ∧ post M2) := by
  refine ctW_of (L0 := [some (.ref (E.2.2 0)), some (.int x1), some (.ref (E.2.2 504)), none]) (by decide) rfl (Nat.le_of_ble_eq_true rfl) rfl ?_
  intro Z hl hE hnl F X ret
  subst hl hE
  refine jj_aload_n F dL_difference_0 rfl ?_
  refine jj_iconst F (v := nI 0) dL_difference_1 (by decide) ?_
  refine jj_aload_n F dL_difference_2 rfl ?_
  refine jj_iload_n F dL_difference_3 rfl ?_
  have hcat : CatchAt RL wh_difference 4 12 eIX NcP := ⟨[], ⟨0, 9, 12, 24⟩, [⟨0, 9, 15, 15⟩], rfl, (fun z hz => by cases hz), by decide, by decide, lk_24, rfl⟩
  refine jj_catV (na := 1) F X hcat cst_IX hM (gl_V mk_L_55 vw_X8_difference) rfl rfl rfl (by decide +kernel) ⟨Nat.le_of_ble_eq_true rfl, Nat.le_of_ble_eq_true rfl⟩ kd_0 rfl rfl rfl (Nat.le_of_ble_eq_true rfl) ⟨Nat.le_of_ble_eq_true rfl, Nat.le_of_ble_eq_true rfl⟩ dL_difference_4 (fun M9 q9 hp9 => ?_)
  refine jj_astore_n F dL_difference_12 (by rw [hnl]; decide) ?_
  refine jj_iconst F (v := nI 1) dL_difference_13 (by decide) ?_
  refine ret _ _ _ _ dL_difference_14 rfl ?_
  exact ⟨rfl, hp9⟩
set_option maxRecDepth 100000 in
theorem w_difference_2 {l : Launch} {E : Ee} {M : Mm} {x1 : Int32} {post : Mm → Prop} (hM : CtT l E yX8_difference (.code yX8_difference cX8_difference 2 (some .int) :: gl) RT M [.ref (E.2.2 0), .int x1] eIS post) : CtW l E yL_difference (.codeWith yL_difference cL_difference 4 (some .int) wh_difference :: gl) RW M [.ref (E.2.2 0), .int x1, .ref (E.2.2 504)] (fun r M2 => r = nI 2 ∧ post M2) := by
  refine ctW_of (L0 := [some (.ref (E.2.2 0)), some (.int x1), some (.ref (E.2.2 504)), none]) (by decide) rfl (Nat.le_of_ble_eq_true rfl) rfl ?_
  intro Z hl hE hnl F X ret
  subst hl hE
  refine jj_aload_n F dL_difference_0 rfl ?_
  refine jj_iconst F (v := nI 0) dL_difference_1 (by decide) ?_
  refine jj_aload_n F dL_difference_2 rfl ?_
  refine jj_iload_n F dL_difference_3 rfl ?_
  have hcat : CatchAt RL wh_difference 4 15 eIS NcP := ⟨[⟨0, 9, 12, 24⟩], ⟨0, 9, 15, 15⟩, [], rfl, (fun z hz => by
    simp only [List.mem_cons, List.not_mem_nil, or_false] at hz
    rcases hz with rfl
    · exact Or.inr ⟨by decide, eIX, lk_24, Or.inr (Or.inl ⟨rfl, rfl⟩)⟩), by decide, by decide, lk_15, rfl⟩
  refine jj_catV (na := 1) F X hcat cst_IS hM (gl_V mk_L_55 vw_X8_difference) rfl rfl rfl (by decide +kernel) ⟨Nat.le_of_ble_eq_true rfl, Nat.le_of_ble_eq_true rfl⟩ kd_0 rfl rfl rfl (Nat.le_of_ble_eq_true rfl) ⟨Nat.le_of_ble_eq_true rfl, Nat.le_of_ble_eq_true rfl⟩ dL_difference_4 (fun M9 q9 hp9 => ?_)
  refine jj_astore_n F dL_difference_15 (by rw [hnl]; decide) ?_
  refine jj_iconst F (v := nI 2) dL_difference_16 (by decide) ?_
  refine ret _ _ _ _ dL_difference_17 rfl ?_
  exact ⟨rfl, hp9⟩
abbrev wh_rewind : List (Nat × Nat × Nat × Nat) := [(0, 9, 12, 24), (0, 9, 15, 15)]
set_option maxRecDepth 100000 in
theorem w_rewind_0 {l : Launch} {E : Ee} {M : Mm} {x1 : Int32} {post : Int32 → Mm → Prop} {rmy : Room} (hM : CtI l E yX8_rewind (.code yX8_rewind cX8_rewind 4 (some .int) :: gl) rmy M [.ref (E.2.2 0), .int x1] 0 0 post) (h1 : rmy.frames ≤ 7) (h2 : rmy.locals ≤ 140) (h3 : rmy.cells = 0) (h4 : rmy.slots = 0) : CtW l E yL_rewind (.codeWith yL_rewind cL_rewind 4 (some .int) wh_rewind :: gl) RW M [.ref (E.2.2 0), .int x1, .ref (E.2.2 504)] (fun r M2 => r = nI 0 ∧ ∃ v M1, post v M1 ∧ M2 = ouM M1 v) := by
  refine ctW_of (L0 := [some (.ref (E.2.2 0)), some (.int x1), some (.ref (E.2.2 504)), none]) (by decide) rfl (Nat.le_of_ble_eq_true rfl) rfl ?_
  intro Z hl hE hnl F X ret
  subst hl hE
  refine jj_aload_n F dL_rewind_0 rfl ?_
  refine jj_iconst F (v := nI 0) dL_rewind_1 (by decide) ?_
  refine jj_aload_n F dL_rewind_2 rfl ?_
  refine jj_iload_n F dL_rewind_3 rfl ?_
  refine jj_callVi (na := 1) F hM (gl_V mk_L_58 vw_X8_rewind) rfl h3 h4 (by decide +kernel) ⟨by show rmy.frames + 1 ≤ 8; omega, by show 8 + (4 + 11) + rmy.locals ≤ 170; omega⟩ kd_0 rfl rfl rfl (Nat.le_of_ble_eq_true rfl) ⟨Nat.le_of_ble_eq_true rfl, Nat.le_of_ble_eq_true rfl⟩ dL_rewind_4 (fun v9 M9 hp9 => ?_)
  refine jj_i2l F dL_rewind_7 ?_
  refine jj_last F kd_504 rfl (by omega) dL_rewind_8 ?_
  refine jj_goto F (tgt := 18) dL_rewind_9 (by decide) ?_
  refine jj_iconst F (v := nI 0) dL_rewind_18 (by decide) ?_
  refine jj_wid (κ2 := (1, 6)) (Nat.zero_le _) (Nat.zero_le _) ?_
  refine ret _ _ _ _ dL_rewind_19 rfl ?_
  exact ⟨rfl, v9, M9, hp9, rfl⟩
set_option maxRecDepth 100000 in
theorem w_rewind_1 {l : Launch} {E : Ee} {M : Mm} {x1 : Int32} {post : Mm → Prop} (hM : CtT l E yX8_rewind (.code yX8_rewind cX8_rewind 4 (some .int) :: gl) RT M [.ref (E.2.2 0), .int x1] eIX post) : CtW l E yL_rewind (.codeWith yL_rewind cL_rewind 4 (some .int) wh_rewind :: gl) RW M [.ref (E.2.2 0), .int x1, .ref (E.2.2 504)] (fun r M2 => r = nI 1 ∧ post M2) := by
  refine ctW_of (L0 := [some (.ref (E.2.2 0)), some (.int x1), some (.ref (E.2.2 504)), none]) (by decide) rfl (Nat.le_of_ble_eq_true rfl) rfl ?_
  intro Z hl hE hnl F X ret
  subst hl hE
  refine jj_aload_n F dL_rewind_0 rfl ?_
  refine jj_iconst F (v := nI 0) dL_rewind_1 (by decide) ?_
  refine jj_aload_n F dL_rewind_2 rfl ?_
  refine jj_iload_n F dL_rewind_3 rfl ?_
  have hcat : CatchAt RL wh_rewind 4 12 eIX NcP := ⟨[], ⟨0, 9, 12, 24⟩, [⟨0, 9, 15, 15⟩], rfl, (fun z hz => by cases hz), by decide, by decide, lk_24, rfl⟩
  refine jj_catV (na := 1) F X hcat cst_IX hM (gl_V mk_L_58 vw_X8_rewind) rfl rfl rfl (by decide +kernel) ⟨Nat.le_of_ble_eq_true rfl, Nat.le_of_ble_eq_true rfl⟩ kd_0 rfl rfl rfl (Nat.le_of_ble_eq_true rfl) ⟨Nat.le_of_ble_eq_true rfl, Nat.le_of_ble_eq_true rfl⟩ dL_rewind_4 (fun M9 q9 hp9 => ?_)
  refine jj_astore_n F dL_rewind_12 (by rw [hnl]; decide) ?_
  refine jj_iconst F (v := nI 1) dL_rewind_13 (by decide) ?_
  refine ret _ _ _ _ dL_rewind_14 rfl ?_
  exact ⟨rfl, hp9⟩
set_option maxRecDepth 100000 in
theorem w_rewind_2 {l : Launch} {E : Ee} {M : Mm} {x1 : Int32} {post : Mm → Prop} (hM : CtT l E yX8_rewind (.code yX8_rewind cX8_rewind 4 (some .int) :: gl) RT M [.ref (E.2.2 0), .int x1] eIS post) : CtW l E yL_rewind (.codeWith yL_rewind cL_rewind 4 (some .int) wh_rewind :: gl) RW M [.ref (E.2.2 0), .int x1, .ref (E.2.2 504)] (fun r M2 => r = nI 2 ∧ post M2) := by
  refine ctW_of (L0 := [some (.ref (E.2.2 0)), some (.int x1), some (.ref (E.2.2 504)), none]) (by decide) rfl (Nat.le_of_ble_eq_true rfl) rfl ?_
  intro Z hl hE hnl F X ret
  subst hl hE
  refine jj_aload_n F dL_rewind_0 rfl ?_
  refine jj_iconst F (v := nI 0) dL_rewind_1 (by decide) ?_
  refine jj_aload_n F dL_rewind_2 rfl ?_
  refine jj_iload_n F dL_rewind_3 rfl ?_
  have hcat : CatchAt RL wh_rewind 4 15 eIS NcP := ⟨[⟨0, 9, 12, 24⟩], ⟨0, 9, 15, 15⟩, [], rfl, (fun z hz => by
    simp only [List.mem_cons, List.not_mem_nil, or_false] at hz
    rcases hz with rfl
    · exact Or.inr ⟨by decide, eIX, lk_24, Or.inr (Or.inl ⟨rfl, rfl⟩)⟩), by decide, by decide, lk_15, rfl⟩
  refine jj_catV (na := 1) F X hcat cst_IS hM (gl_V mk_L_58 vw_X8_rewind) rfl rfl rfl (by decide +kernel) ⟨Nat.le_of_ble_eq_true rfl, Nat.le_of_ble_eq_true rfl⟩ kd_0 rfl rfl rfl (Nat.le_of_ble_eq_true rfl) ⟨Nat.le_of_ble_eq_true rfl, Nat.le_of_ble_eq_true rfl⟩ dL_rewind_4 (fun M9 q9 hp9 => ?_)
  refine jj_astore_n F dL_rewind_15 (by rw [hnl]; decide) ?_
  refine jj_iconst F (v := nI 2) dL_rewind_16 (by decide) ?_
  refine ret _ _ _ _ dL_rewind_17 rfl ?_
  exact ⟨rfl, hp9⟩
abbrev wh_color : List (Nat × Nat × Nat × Nat) := [(0, 9, 12, 24)]
set_option maxRecDepth 100000 in
theorem w_color_0 {l : Launch} {E : Ee} {M : Mm} {x1 : Int32} {post : Int32 → Mm → Prop} {rmy : Room} (hM : CtI l E yX8_color (.code yX8_color cX8_color 2 (some .int) :: gl) rmy M [.ref (E.2.2 0), .int x1] 0 0 post) (h1 : rmy.frames ≤ 7) (h2 : rmy.locals ≤ 140) (h3 : rmy.cells = 0) (h4 : rmy.slots = 0) : CtW l E yL_color (.codeWith yL_color cL_color 4 (some .int) wh_color :: gl) RW M [.ref (E.2.2 0), .int x1, .ref (E.2.2 504)] (fun r M2 => r = nI 0 ∧ ∃ v M1, post v M1 ∧ M2 = ouM M1 v) := by
  refine ctW_of (L0 := [some (.ref (E.2.2 0)), some (.int x1), some (.ref (E.2.2 504)), none]) (by decide) rfl (Nat.le_of_ble_eq_true rfl) rfl ?_
  intro Z hl hE hnl F X ret
  subst hl hE
  refine jj_aload_n F dL_color_0 rfl ?_
  refine jj_iconst F (v := nI 0) dL_color_1 (by decide) ?_
  refine jj_aload_n F dL_color_2 rfl ?_
  refine jj_iload_n F dL_color_3 rfl ?_
  refine jj_callVi (na := 1) F hM (gl_V mk_L_61 vw_X8_color) rfl h3 h4 (by decide +kernel) ⟨by show rmy.frames + 1 ≤ 8; omega, by show 8 + (2 + 11) + rmy.locals ≤ 170; omega⟩ kd_0 rfl rfl rfl (Nat.le_of_ble_eq_true rfl) ⟨Nat.le_of_ble_eq_true rfl, Nat.le_of_ble_eq_true rfl⟩ dL_color_4 (fun v9 M9 hp9 => ?_)
  refine jj_i2l F dL_color_7 ?_
  refine jj_last F kd_504 rfl (by omega) dL_color_8 ?_
  refine jj_goto F (tgt := 15) dL_color_9 (by decide) ?_
  refine jj_iconst F (v := nI 0) dL_color_15 (by decide) ?_
  refine jj_wid (κ2 := (1, 6)) (Nat.zero_le _) (Nat.zero_le _) ?_
  refine ret _ _ _ _ dL_color_16 rfl ?_
  exact ⟨rfl, v9, M9, hp9, rfl⟩
set_option maxRecDepth 100000 in
theorem w_color_1 {l : Launch} {E : Ee} {M : Mm} {x1 : Int32} {post : Mm → Prop} (hM : CtT l E yX8_color (.code yX8_color cX8_color 2 (some .int) :: gl) RT M [.ref (E.2.2 0), .int x1] eIX post) : CtW l E yL_color (.codeWith yL_color cL_color 4 (some .int) wh_color :: gl) RW M [.ref (E.2.2 0), .int x1, .ref (E.2.2 504)] (fun r M2 => r = nI 1 ∧ post M2) := by
  refine ctW_of (L0 := [some (.ref (E.2.2 0)), some (.int x1), some (.ref (E.2.2 504)), none]) (by decide) rfl (Nat.le_of_ble_eq_true rfl) rfl ?_
  intro Z hl hE hnl F X ret
  subst hl hE
  refine jj_aload_n F dL_color_0 rfl ?_
  refine jj_iconst F (v := nI 0) dL_color_1 (by decide) ?_
  refine jj_aload_n F dL_color_2 rfl ?_
  refine jj_iload_n F dL_color_3 rfl ?_
  have hcat : CatchAt RL wh_color 4 12 eIX NcP := ⟨[], ⟨0, 9, 12, 24⟩, [], rfl, (fun z hz => by cases hz), by decide, by decide, lk_24, rfl⟩
  refine jj_catV (na := 1) F X hcat cst_IX hM (gl_V mk_L_61 vw_X8_color) rfl rfl rfl (by decide +kernel) ⟨Nat.le_of_ble_eq_true rfl, Nat.le_of_ble_eq_true rfl⟩ kd_0 rfl rfl rfl (Nat.le_of_ble_eq_true rfl) ⟨Nat.le_of_ble_eq_true rfl, Nat.le_of_ble_eq_true rfl⟩ dL_color_4 (fun M9 q9 hp9 => ?_)
  refine jj_astore_n F dL_color_12 (by rw [hnl]; decide) ?_
  refine jj_iconst F (v := nI 1) dL_color_13 (by decide) ?_
  refine ret _ _ _ _ dL_color_14 rfl ?_
  exact ⟨rfl, hp9⟩
abbrev wh_colorLater : List (Nat × Nat × Nat × Nat) := [(0, 10, 13, 24), (0, 10, 17, 13)]
set_option maxRecDepth 100000 in
theorem w_colorLater_0 {l : Launch} {E : Ee} {M : Mm} {x1 x2 : Int32} {post : Int32 → Mm → Prop} {rmy : Room} (hM : CtI l E yX8_colorLater (.code yX8_colorLater cX8_colorLater 3 (some .int) :: gl) rmy M [.ref (E.2.2 0), .int x1, .int x2] 0 0 post) (h1 : rmy.frames ≤ 7) (h2 : rmy.locals ≤ 140) (h3 : rmy.cells = 0) (h4 : rmy.slots = 0) : CtW l E yL_colorLater (.codeWith yL_colorLater cL_colorLater 5 (some .int) wh_colorLater :: gl) RW M [.ref (E.2.2 0), .int x1, .int x2, .ref (E.2.2 504)] (fun r M2 => r = nI 0 ∧ ∃ v M1, post v M1 ∧ M2 = ouM M1 v) := by
  refine ctW_of (L0 := [some (.ref (E.2.2 0)), some (.int x1), some (.int x2), some (.ref (E.2.2 504)), none]) (by decide) rfl (Nat.le_of_ble_eq_true rfl) rfl ?_
  intro Z hl hE hnl F X ret
  subst hl hE
  refine jj_aload_n F dL_colorLater_0 rfl ?_
  refine jj_iconst F (v := nI 0) dL_colorLater_1 (by decide) ?_
  refine jj_aload_n F dL_colorLater_2 rfl ?_
  refine jj_iload_n F dL_colorLater_3 rfl ?_
  refine jj_iload_n F dL_colorLater_4 rfl ?_
  refine jj_callVi (na := 2) F hM (gl_V mk_L_64 vw_X8_colorLater) rfl h3 h4 (by decide +kernel) ⟨by show rmy.frames + 1 ≤ 8; omega, by show 8 + (3 + 11) + rmy.locals ≤ 170; omega⟩ kd_0 rfl rfl rfl (Nat.le_of_ble_eq_true rfl) ⟨Nat.le_of_ble_eq_true rfl, Nat.le_of_ble_eq_true rfl⟩ dL_colorLater_5 (fun v9 M9 hp9 => ?_)
  refine jj_i2l F dL_colorLater_8 ?_
  refine jj_last F kd_504 rfl (by omega) dL_colorLater_9 ?_
  refine jj_goto F (tgt := 21) dL_colorLater_10 (by decide) ?_
  refine jj_iconst F (v := nI 0) dL_colorLater_21 (by decide) ?_
  refine jj_wid (κ2 := (1, 6)) (Nat.zero_le _) (Nat.zero_le _) ?_
  refine ret _ _ _ _ dL_colorLater_22 rfl ?_
  exact ⟨rfl, v9, M9, hp9, rfl⟩
set_option maxRecDepth 100000 in
theorem w_colorLater_1 {l : Launch} {E : Ee} {M : Mm} {x1 x2 : Int32} {post : Mm → Prop} (hM : CtT l E yX8_colorLater (.code yX8_colorLater cX8_colorLater 3 (some .int) :: gl) RT M [.ref (E.2.2 0), .int x1, .int x2] eIX post) : CtW l E yL_colorLater (.codeWith yL_colorLater cL_colorLater 5 (some .int) wh_colorLater :: gl) RW M [.ref (E.2.2 0), .int x1, .int x2, .ref (E.2.2 504)] (fun r M2 => r = nI 1 ∧ post M2) := by
  refine ctW_of (L0 := [some (.ref (E.2.2 0)), some (.int x1), some (.int x2), some (.ref (E.2.2 504)), none]) (by decide) rfl (Nat.le_of_ble_eq_true rfl) rfl ?_
  intro Z hl hE hnl F X ret
  subst hl hE
  refine jj_aload_n F dL_colorLater_0 rfl ?_
  refine jj_iconst F (v := nI 0) dL_colorLater_1 (by decide) ?_
  refine jj_aload_n F dL_colorLater_2 rfl ?_
  refine jj_iload_n F dL_colorLater_3 rfl ?_
  refine jj_iload_n F dL_colorLater_4 rfl ?_
  have hcat : CatchAt RL wh_colorLater 5 13 eIX NcP := ⟨[], ⟨0, 10, 13, 24⟩, [⟨0, 10, 17, 13⟩], rfl, (fun z hz => by cases hz), by decide, by decide, lk_24, rfl⟩
  refine jj_catV (na := 2) F X hcat cst_IX hM (gl_V mk_L_64 vw_X8_colorLater) rfl rfl rfl (by decide +kernel) ⟨Nat.le_of_ble_eq_true rfl, Nat.le_of_ble_eq_true rfl⟩ kd_0 rfl rfl rfl (Nat.le_of_ble_eq_true rfl) ⟨Nat.le_of_ble_eq_true rfl, Nat.le_of_ble_eq_true rfl⟩ dL_colorLater_5 (fun M9 q9 hp9 => ?_)
  refine jj_astore F dL_colorLater_13 (by rw [hnl]; decide) ?_
  refine jj_iconst F (v := nI 1) dL_colorLater_15 (by decide) ?_
  refine ret _ _ _ _ dL_colorLater_16 rfl ?_
  exact ⟨rfl, hp9⟩
set_option maxRecDepth 100000 in
theorem w_colorLater_2 {l : Launch} {E : Ee} {M : Mm} {x1 x2 : Int32} {post : Mm → Prop} (hM : CtT l E yX8_colorLater (.code yX8_colorLater cX8_colorLater 3 (some .int) :: gl) RT M [.ref (E.2.2 0), .int x1, .int x2] eIA post) : CtW l E yL_colorLater (.codeWith yL_colorLater cL_colorLater 5 (some .int) wh_colorLater :: gl) RW M [.ref (E.2.2 0), .int x1, .int x2, .ref (E.2.2 504)] (fun r M2 => r = nI 2 ∧ post M2) := by
  refine ctW_of (L0 := [some (.ref (E.2.2 0)), some (.int x1), some (.int x2), some (.ref (E.2.2 504)), none]) (by decide) rfl (Nat.le_of_ble_eq_true rfl) rfl ?_
  intro Z hl hE hnl F X ret
  subst hl hE
  refine jj_aload_n F dL_colorLater_0 rfl ?_
  refine jj_iconst F (v := nI 0) dL_colorLater_1 (by decide) ?_
  refine jj_aload_n F dL_colorLater_2 rfl ?_
  refine jj_iload_n F dL_colorLater_3 rfl ?_
  refine jj_iload_n F dL_colorLater_4 rfl ?_
  have hcat : CatchAt RL wh_colorLater 5 17 eIA NcP := ⟨[⟨0, 10, 13, 24⟩], ⟨0, 10, 17, 13⟩, [], rfl, (fun z hz => by
    simp only [List.mem_cons, List.not_mem_nil, or_false] at hz
    rcases hz with rfl
    · exact Or.inr ⟨by decide, eIX, lk_24, Or.inl ⟨rfl, rfl⟩⟩), by decide, by decide, lk_13, rfl⟩
  refine jj_catV (na := 2) F X hcat cst_IA hM (gl_V mk_L_64 vw_X8_colorLater) rfl rfl rfl (by decide +kernel) ⟨Nat.le_of_ble_eq_true rfl, Nat.le_of_ble_eq_true rfl⟩ kd_0 rfl rfl rfl (Nat.le_of_ble_eq_true rfl) ⟨Nat.le_of_ble_eq_true rfl, Nat.le_of_ble_eq_true rfl⟩ dL_colorLater_5 (fun M9 q9 hp9 => ?_)
  refine jj_astore F dL_colorLater_17 (by rw [hnl]; decide) ?_
  refine jj_iconst F (v := nI 2) dL_colorLater_19 (by decide) ?_
  refine ret _ _ _ _ dL_colorLater_20 rfl ?_
  exact ⟨rfl, hp9⟩
abbrev wh_top : List (Nat × Nat × Nat × Nat) := [(0, 9, 12, 24)]
set_option maxRecDepth 100000 in
theorem w_top_0 {l : Launch} {E : Ee} {M : Mm} {x1 : Int32} {post : Int32 → Mm → Prop} {rmy : Room} (hM : CtI l E yX8_top (.code yX8_top cX8_top 2 (some .int) :: gl) rmy M [.ref (E.2.2 0), .int x1] 0 0 post) (h1 : rmy.frames ≤ 7) (h2 : rmy.locals ≤ 140) (h3 : rmy.cells = 0) (h4 : rmy.slots = 0) : CtW l E yL_top (.codeWith yL_top cL_top 4 (some .int) wh_top :: gl) RW M [.ref (E.2.2 0), .int x1, .ref (E.2.2 504)] (fun r M2 => r = nI 0 ∧ ∃ v M1, post v M1 ∧ M2 = ouM M1 v) := by
  refine ctW_of (L0 := [some (.ref (E.2.2 0)), some (.int x1), some (.ref (E.2.2 504)), none]) (by decide) rfl (Nat.le_of_ble_eq_true rfl) rfl ?_
  intro Z hl hE hnl F X ret
  subst hl hE
  refine jj_aload_n F dL_top_0 rfl ?_
  refine jj_iconst F (v := nI 0) dL_top_1 (by decide) ?_
  refine jj_aload_n F dL_top_2 rfl ?_
  refine jj_iload_n F dL_top_3 rfl ?_
  refine jj_callVi (na := 1) F hM (gl_V mk_L_67 vw_X8_top) rfl h3 h4 (by decide +kernel) ⟨by show rmy.frames + 1 ≤ 8; omega, by show 8 + (2 + 11) + rmy.locals ≤ 170; omega⟩ kd_0 rfl rfl rfl (Nat.le_of_ble_eq_true rfl) ⟨Nat.le_of_ble_eq_true rfl, Nat.le_of_ble_eq_true rfl⟩ dL_top_4 (fun v9 M9 hp9 => ?_)
  refine jj_i2l F dL_top_7 ?_
  refine jj_last F kd_504 rfl (by omega) dL_top_8 ?_
  refine jj_goto F (tgt := 15) dL_top_9 (by decide) ?_
  refine jj_iconst F (v := nI 0) dL_top_15 (by decide) ?_
  refine jj_wid (κ2 := (1, 6)) (Nat.zero_le _) (Nat.zero_le _) ?_
  refine ret _ _ _ _ dL_top_16 rfl ?_
  exact ⟨rfl, v9, M9, hp9, rfl⟩
set_option maxRecDepth 100000 in
theorem w_top_1 {l : Launch} {E : Ee} {M : Mm} {x1 : Int32} {post : Mm → Prop} (hM : CtT l E yX8_top (.code yX8_top cX8_top 2 (some .int) :: gl) RT M [.ref (E.2.2 0), .int x1] eIX post) : CtW l E yL_top (.codeWith yL_top cL_top 4 (some .int) wh_top :: gl) RW M [.ref (E.2.2 0), .int x1, .ref (E.2.2 504)] (fun r M2 => r = nI 1 ∧ post M2) := by
  refine ctW_of (L0 := [some (.ref (E.2.2 0)), some (.int x1), some (.ref (E.2.2 504)), none]) (by decide) rfl (Nat.le_of_ble_eq_true rfl) rfl ?_
  intro Z hl hE hnl F X ret
  subst hl hE
  refine jj_aload_n F dL_top_0 rfl ?_
  refine jj_iconst F (v := nI 0) dL_top_1 (by decide) ?_
  refine jj_aload_n F dL_top_2 rfl ?_
  refine jj_iload_n F dL_top_3 rfl ?_
  have hcat : CatchAt RL wh_top 4 12 eIX NcP := ⟨[], ⟨0, 9, 12, 24⟩, [], rfl, (fun z hz => by cases hz), by decide, by decide, lk_24, rfl⟩
  refine jj_catV (na := 1) F X hcat cst_IX hM (gl_V mk_L_67 vw_X8_top) rfl rfl rfl (by decide +kernel) ⟨Nat.le_of_ble_eq_true rfl, Nat.le_of_ble_eq_true rfl⟩ kd_0 rfl rfl rfl (Nat.le_of_ble_eq_true rfl) ⟨Nat.le_of_ble_eq_true rfl, Nat.le_of_ble_eq_true rfl⟩ dL_top_4 (fun M9 q9 hp9 => ?_)
  refine jj_astore_n F dL_top_12 (by rw [hnl]; decide) ?_
  refine jj_iconst F (v := nI 1) dL_top_13 (by decide) ?_
  refine ret _ _ _ _ dL_top_14 rfl ?_
  exact ⟨rfl, hp9⟩
abbrev wh_count : List (Nat × Nat × Nat × Nat) := [(0, 9, 12, 13)]
set_option maxRecDepth 100000 in
theorem w_count_0 {l : Launch} {E : Ee} {M : Mm} {x1 : Int32} {post : Int32 → Mm → Prop} {rmy : Room} (hM : CtI l E yX8_count (.code yX8_count cX8_count 2 (some .int) :: gl) rmy M [.ref (E.2.2 0), .int x1] 0 0 post) (h1 : rmy.frames ≤ 7) (h2 : rmy.locals ≤ 140) (h3 : rmy.cells = 0) (h4 : rmy.slots = 0) : CtW l E yL_count (.codeWith yL_count cL_count 4 (some .int) wh_count :: gl) RW M [.ref (E.2.2 0), .int x1, .ref (E.2.2 504)] (fun r M2 => r = nI 0 ∧ ∃ v M1, post v M1 ∧ M2 = ouM M1 v) := by
  refine ctW_of (L0 := [some (.ref (E.2.2 0)), some (.int x1), some (.ref (E.2.2 504)), none]) (by decide) rfl (Nat.le_of_ble_eq_true rfl) rfl ?_
  intro Z hl hE hnl F X ret
  subst hl hE
  refine jj_aload_n F dL_count_0 rfl ?_
  refine jj_iconst F (v := nI 0) dL_count_1 (by decide) ?_
  refine jj_aload_n F dL_count_2 rfl ?_
  refine jj_iload_n F dL_count_3 rfl ?_
  refine jj_callVi (na := 1) F hM (gl_V mk_L_70 vw_X8_count) rfl h3 h4 (by decide +kernel) ⟨by show rmy.frames + 1 ≤ 8; omega, by show 8 + (2 + 11) + rmy.locals ≤ 170; omega⟩ kd_0 rfl rfl rfl (Nat.le_of_ble_eq_true rfl) ⟨Nat.le_of_ble_eq_true rfl, Nat.le_of_ble_eq_true rfl⟩ dL_count_4 (fun v9 M9 hp9 => ?_)
  refine jj_i2l F dL_count_7 ?_
  refine jj_last F kd_504 rfl (by omega) dL_count_8 ?_
  refine jj_goto F (tgt := 15) dL_count_9 (by decide) ?_
  refine jj_iconst F (v := nI 0) dL_count_15 (by decide) ?_
  refine jj_wid (κ2 := (1, 6)) (Nat.zero_le _) (Nat.zero_le _) ?_
  refine ret _ _ _ _ dL_count_16 rfl ?_
  exact ⟨rfl, v9, M9, hp9, rfl⟩
set_option maxRecDepth 100000 in
theorem w_count_1 {l : Launch} {E : Ee} {M : Mm} {x1 : Int32} {post : Mm → Prop} (hM : CtT l E yX8_count (.code yX8_count cX8_count 2 (some .int) :: gl) RT M [.ref (E.2.2 0), .int x1] eIA post) : CtW l E yL_count (.codeWith yL_count cL_count 4 (some .int) wh_count :: gl) RW M [.ref (E.2.2 0), .int x1, .ref (E.2.2 504)] (fun r M2 => r = nI 1 ∧ post M2) := by
  refine ctW_of (L0 := [some (.ref (E.2.2 0)), some (.int x1), some (.ref (E.2.2 504)), none]) (by decide) rfl (Nat.le_of_ble_eq_true rfl) rfl ?_
  intro Z hl hE hnl F X ret
  subst hl hE
  refine jj_aload_n F dL_count_0 rfl ?_
  refine jj_iconst F (v := nI 0) dL_count_1 (by decide) ?_
  refine jj_aload_n F dL_count_2 rfl ?_
  refine jj_iload_n F dL_count_3 rfl ?_
  have hcat : CatchAt RL wh_count 4 12 eIA NcP := ⟨[], ⟨0, 9, 12, 13⟩, [], rfl, (fun z hz => by cases hz), by decide, by decide, lk_13, rfl⟩
  refine jj_catV (na := 1) F X hcat cst_IA hM (gl_V mk_L_70 vw_X8_count) rfl rfl rfl (by decide +kernel) ⟨Nat.le_of_ble_eq_true rfl, Nat.le_of_ble_eq_true rfl⟩ kd_0 rfl rfl rfl (Nat.le_of_ble_eq_true rfl) ⟨Nat.le_of_ble_eq_true rfl, Nat.le_of_ble_eq_true rfl⟩ dL_count_4 (fun M9 q9 hp9 => ?_)
  refine jj_astore_n F dL_count_12 (by rw [hnl]; decide) ?_
  refine jj_iconst F (v := nI 1) dL_count_13 (by decide) ?_
  refine ret _ _ _ _ dL_count_14 rfl ?_
  exact ⟨rfl, hp9⟩
abbrev wh_operation : List (Nat × Nat × Nat × Nat) := [(0, 10, 13, 24), (0, 10, 17, 13)]
set_option maxRecDepth 100000 in
theorem w_operation_0 {l : Launch} {E : Ee} {M : Mm} {x1 x2 : Int32} {post : Int32 → Mm → Prop} {rmy : Room} (hM : CtI l E yX8_operation (.code yX8_operation cX8_operation 3 (some .int) :: gl) rmy M [.ref (E.2.2 0), .int x1, .int x2] 0 0 post) (h1 : rmy.frames ≤ 7) (h2 : rmy.locals ≤ 140) (h3 : rmy.cells = 0) (h4 : rmy.slots = 0) : CtW l E yL_operation (.codeWith yL_operation cL_operation 5 (some .int) wh_operation :: gl) RW M [.ref (E.2.2 0), .int x1, .int x2, .ref (E.2.2 504)] (fun r M2 => r = nI 0 ∧ ∃ v M1, post v M1 ∧ M2 = ouM M1 v) := by
  refine ctW_of (L0 := [some (.ref (E.2.2 0)), some (.int x1), some (.int x2), some (.ref (E.2.2 504)), none]) (by decide) rfl (Nat.le_of_ble_eq_true rfl) rfl ?_
  intro Z hl hE hnl F X ret
  subst hl hE
  refine jj_aload_n F dL_operation_0 rfl ?_
  refine jj_iconst F (v := nI 0) dL_operation_1 (by decide) ?_
  refine jj_aload_n F dL_operation_2 rfl ?_
  refine jj_iload_n F dL_operation_3 rfl ?_
  refine jj_iload_n F dL_operation_4 rfl ?_
  refine jj_callVi (na := 2) F hM (gl_V mk_L_73 vw_X8_operation) rfl h3 h4 (by decide +kernel) ⟨by show rmy.frames + 1 ≤ 8; omega, by show 8 + (3 + 11) + rmy.locals ≤ 170; omega⟩ kd_0 rfl rfl rfl (Nat.le_of_ble_eq_true rfl) ⟨Nat.le_of_ble_eq_true rfl, Nat.le_of_ble_eq_true rfl⟩ dL_operation_5 (fun v9 M9 hp9 => ?_)
  refine jj_i2l F dL_operation_8 ?_
  refine jj_last F kd_504 rfl (by omega) dL_operation_9 ?_
  refine jj_goto F (tgt := 21) dL_operation_10 (by decide) ?_
  refine jj_iconst F (v := nI 0) dL_operation_21 (by decide) ?_
  refine jj_wid (κ2 := (1, 6)) (Nat.zero_le _) (Nat.zero_le _) ?_
  refine ret _ _ _ _ dL_operation_22 rfl ?_
  exact ⟨rfl, v9, M9, hp9, rfl⟩
set_option maxRecDepth 100000 in
theorem w_operation_1 {l : Launch} {E : Ee} {M : Mm} {x1 x2 : Int32} {post : Mm → Prop} (hM : CtT l E yX8_operation (.code yX8_operation cX8_operation 3 (some .int) :: gl) RT M [.ref (E.2.2 0), .int x1, .int x2] eIX post) : CtW l E yL_operation (.codeWith yL_operation cL_operation 5 (some .int) wh_operation :: gl) RW M [.ref (E.2.2 0), .int x1, .int x2, .ref (E.2.2 504)] (fun r M2 => r = nI 1 ∧ post M2) := by
  refine ctW_of (L0 := [some (.ref (E.2.2 0)), some (.int x1), some (.int x2), some (.ref (E.2.2 504)), none]) (by decide) rfl (Nat.le_of_ble_eq_true rfl) rfl ?_
  intro Z hl hE hnl F X ret
  subst hl hE
  refine jj_aload_n F dL_operation_0 rfl ?_
  refine jj_iconst F (v := nI 0) dL_operation_1 (by decide) ?_
  refine jj_aload_n F dL_operation_2 rfl ?_
  refine jj_iload_n F dL_operation_3 rfl ?_
  refine jj_iload_n F dL_operation_4 rfl ?_
  have hcat : CatchAt RL wh_operation 5 13 eIX NcP := ⟨[], ⟨0, 10, 13, 24⟩, [⟨0, 10, 17, 13⟩], rfl, (fun z hz => by cases hz), by decide, by decide, lk_24, rfl⟩
  refine jj_catV (na := 2) F X hcat cst_IX hM (gl_V mk_L_73 vw_X8_operation) rfl rfl rfl (by decide +kernel) ⟨Nat.le_of_ble_eq_true rfl, Nat.le_of_ble_eq_true rfl⟩ kd_0 rfl rfl rfl (Nat.le_of_ble_eq_true rfl) ⟨Nat.le_of_ble_eq_true rfl, Nat.le_of_ble_eq_true rfl⟩ dL_operation_5 (fun M9 q9 hp9 => ?_)
  refine jj_astore F dL_operation_13 (by rw [hnl]; decide) ?_
  refine jj_iconst F (v := nI 1) dL_operation_15 (by decide) ?_
  refine ret _ _ _ _ dL_operation_16 rfl ?_
  exact ⟨rfl, hp9⟩
set_option maxRecDepth 100000 in
theorem w_operation_2 {l : Launch} {E : Ee} {M : Mm} {x1 x2 : Int32} {post : Mm → Prop} (hM : CtT l E yX8_operation (.code yX8_operation cX8_operation 3 (some .int) :: gl) RT M [.ref (E.2.2 0), .int x1, .int x2] eIA post) : CtW l E yL_operation (.codeWith yL_operation cL_operation 5 (some .int) wh_operation :: gl) RW M [.ref (E.2.2 0), .int x1, .int x2, .ref (E.2.2 504)] (fun r M2 => r = nI 2 ∧ post M2) := by
  refine ctW_of (L0 := [some (.ref (E.2.2 0)), some (.int x1), some (.int x2), some (.ref (E.2.2 504)), none]) (by decide) rfl (Nat.le_of_ble_eq_true rfl) rfl ?_
  intro Z hl hE hnl F X ret
  subst hl hE
  refine jj_aload_n F dL_operation_0 rfl ?_
  refine jj_iconst F (v := nI 0) dL_operation_1 (by decide) ?_
  refine jj_aload_n F dL_operation_2 rfl ?_
  refine jj_iload_n F dL_operation_3 rfl ?_
  refine jj_iload_n F dL_operation_4 rfl ?_
  have hcat : CatchAt RL wh_operation 5 17 eIA NcP := ⟨[⟨0, 10, 13, 24⟩], ⟨0, 10, 17, 13⟩, [], rfl, (fun z hz => by
    simp only [List.mem_cons, List.not_mem_nil, or_false] at hz
    rcases hz with rfl
    · exact Or.inr ⟨by decide, eIX, lk_24, Or.inl ⟨rfl, rfl⟩⟩), by decide, by decide, lk_13, rfl⟩
  refine jj_catV (na := 2) F X hcat cst_IA hM (gl_V mk_L_73 vw_X8_operation) rfl rfl rfl (by decide +kernel) ⟨Nat.le_of_ble_eq_true rfl, Nat.le_of_ble_eq_true rfl⟩ kd_0 rfl rfl rfl (Nat.le_of_ble_eq_true rfl) ⟨Nat.le_of_ble_eq_true rfl, Nat.le_of_ble_eq_true rfl⟩ dL_operation_5 (fun M9 q9 hp9 => ?_)
  refine jj_astore F dL_operation_17 (by rw [hnl]; decide) ?_
  refine jj_iconst F (v := nI 2) dL_operation_19 (by decide) ?_
  refine ret _ _ _ _ dL_operation_20 rfl ?_
  exact ⟨rfl, hp9⟩
abbrev wh_ifSwitched : List (Nat × Nat × Nat × Nat) := [(0, 9, 12, 24)]
set_option maxRecDepth 100000 in
theorem w_ifSwitched_0 {l : Launch} {E : Ee} {M : Mm} {x1 : Int32} {post : Int32 → Mm → Prop} {rmy : Room} (hM : CtI l E yX8_ifSwitched (.code yX8_ifSwitched cX8_ifSwitched 2 (some .int) :: gl) rmy M [.ref (E.2.2 0), .int x1] 0 0 post) (h1 : rmy.frames ≤ 7) (h2 : rmy.locals ≤ 140) (h3 : rmy.cells = 0) (h4 : rmy.slots = 0) : CtW l E yL_ifSwitched (.codeWith yL_ifSwitched cL_ifSwitched 4 (some .int) wh_ifSwitched :: gl) RW M [.ref (E.2.2 0), .int x1, .ref (E.2.2 504)] (fun r M2 => r = nI 0 ∧ ∃ v M1, post v M1 ∧ M2 = ouM M1 v) := by
  refine ctW_of (L0 := [some (.ref (E.2.2 0)), some (.int x1), some (.ref (E.2.2 504)), none]) (by decide) rfl (Nat.le_of_ble_eq_true rfl) rfl ?_
  intro Z hl hE hnl F X ret
  subst hl hE
  refine jj_aload_n F dL_ifSwitched_0 rfl ?_
  refine jj_iconst F (v := nI 0) dL_ifSwitched_1 (by decide) ?_
  refine jj_aload_n F dL_ifSwitched_2 rfl ?_
  refine jj_iload_n F dL_ifSwitched_3 rfl ?_
  refine jj_callVi (na := 1) F hM (gl_V mk_L_76 vw_X8_ifSwitched) rfl h3 h4 (by decide +kernel) ⟨by show rmy.frames + 1 ≤ 8; omega, by show 8 + (2 + 11) + rmy.locals ≤ 170; omega⟩ kd_0 rfl rfl rfl (Nat.le_of_ble_eq_true rfl) ⟨Nat.le_of_ble_eq_true rfl, Nat.le_of_ble_eq_true rfl⟩ dL_ifSwitched_4 (fun v9 M9 hp9 => ?_)
  refine jj_i2l F dL_ifSwitched_7 ?_
  refine jj_last F kd_504 rfl (by omega) dL_ifSwitched_8 ?_
  refine jj_goto F (tgt := 15) dL_ifSwitched_9 (by decide) ?_
  refine jj_iconst F (v := nI 0) dL_ifSwitched_15 (by decide) ?_
  refine jj_wid (κ2 := (1, 6)) (Nat.zero_le _) (Nat.zero_le _) ?_
  refine ret _ _ _ _ dL_ifSwitched_16 rfl ?_
  exact ⟨rfl, v9, M9, hp9, rfl⟩
set_option maxRecDepth 100000 in
theorem w_ifSwitched_1 {l : Launch} {E : Ee} {M : Mm} {x1 : Int32} {post : Mm → Prop} (hM : CtT l E yX8_ifSwitched (.code yX8_ifSwitched cX8_ifSwitched 2 (some .int) :: gl) RT M [.ref (E.2.2 0), .int x1] eIX post) : CtW l E yL_ifSwitched (.codeWith yL_ifSwitched cL_ifSwitched 4 (some .int) wh_ifSwitched :: gl) RW M [.ref (E.2.2 0), .int x1, .ref (E.2.2 504)] (fun r M2 => r = nI 1 ∧ post M2) := by
  refine ctW_of (L0 := [some (.ref (E.2.2 0)), some (.int x1), some (.ref (E.2.2 504)), none]) (by decide) rfl (Nat.le_of_ble_eq_true rfl) rfl ?_
  intro Z hl hE hnl F X ret
  subst hl hE
  refine jj_aload_n F dL_ifSwitched_0 rfl ?_
  refine jj_iconst F (v := nI 0) dL_ifSwitched_1 (by decide) ?_
  refine jj_aload_n F dL_ifSwitched_2 rfl ?_
  refine jj_iload_n F dL_ifSwitched_3 rfl ?_
  have hcat : CatchAt RL wh_ifSwitched 4 12 eIX NcP := ⟨[], ⟨0, 9, 12, 24⟩, [], rfl, (fun z hz => by cases hz), by decide, by decide, lk_24, rfl⟩
  refine jj_catV (na := 1) F X hcat cst_IX hM (gl_V mk_L_76 vw_X8_ifSwitched) rfl rfl rfl (by decide +kernel) ⟨Nat.le_of_ble_eq_true rfl, Nat.le_of_ble_eq_true rfl⟩ kd_0 rfl rfl rfl (Nat.le_of_ble_eq_true rfl) ⟨Nat.le_of_ble_eq_true rfl, Nat.le_of_ble_eq_true rfl⟩ dL_ifSwitched_4 (fun M9 q9 hp9 => ?_)
  refine jj_astore_n F dL_ifSwitched_12 (by rw [hnl]; decide) ?_
  refine jj_iconst F (v := nI 1) dL_ifSwitched_13 (by decide) ?_
  refine ret _ _ _ _ dL_ifSwitched_14 rfl ?_
  exact ⟨rfl, hp9⟩
abbrev wh_user : List (Nat × Nat × Nat × Nat) := [(0, 10, 13, 24), (0, 10, 17, 13)]
set_option maxRecDepth 100000 in
theorem w_user_0 {l : Launch} {E : Ee} {M : Mm} {x1 x2 : Int32} {post : Int32 → Mm → Prop} {rmy : Room} (hM : CtI l E yX8_user (.code yX8_user cX8_user 3 (some .int) :: gl) rmy M [.ref (E.2.2 0), .int x1, .int x2] 0 0 post) (h1 : rmy.frames ≤ 7) (h2 : rmy.locals ≤ 140) (h3 : rmy.cells = 0) (h4 : rmy.slots = 0) : CtW l E yL_user (.codeWith yL_user cL_user 5 (some .int) wh_user :: gl) RW M [.ref (E.2.2 0), .int x1, .int x2, .ref (E.2.2 504)] (fun r M2 => r = nI 0 ∧ ∃ v M1, post v M1 ∧ M2 = ouM M1 v) := by
  refine ctW_of (L0 := [some (.ref (E.2.2 0)), some (.int x1), some (.int x2), some (.ref (E.2.2 504)), none]) (by decide) rfl (Nat.le_of_ble_eq_true rfl) rfl ?_
  intro Z hl hE hnl F X ret
  subst hl hE
  refine jj_aload_n F dL_user_0 rfl ?_
  refine jj_iconst F (v := nI 0) dL_user_1 (by decide) ?_
  refine jj_aload_n F dL_user_2 rfl ?_
  refine jj_iload_n F dL_user_3 rfl ?_
  refine jj_iload_n F dL_user_4 rfl ?_
  refine jj_callVi (na := 2) F hM (gl_V mk_L_79 vw_X8_user) rfl h3 h4 (by decide +kernel) ⟨by show rmy.frames + 1 ≤ 8; omega, by show 8 + (3 + 11) + rmy.locals ≤ 170; omega⟩ kd_0 rfl rfl rfl (Nat.le_of_ble_eq_true rfl) ⟨Nat.le_of_ble_eq_true rfl, Nat.le_of_ble_eq_true rfl⟩ dL_user_5 (fun v9 M9 hp9 => ?_)
  refine jj_i2l F dL_user_8 ?_
  refine jj_last F kd_504 rfl (by omega) dL_user_9 ?_
  refine jj_goto F (tgt := 21) dL_user_10 (by decide) ?_
  refine jj_iconst F (v := nI 0) dL_user_21 (by decide) ?_
  refine jj_wid (κ2 := (1, 6)) (Nat.zero_le _) (Nat.zero_le _) ?_
  refine ret _ _ _ _ dL_user_22 rfl ?_
  exact ⟨rfl, v9, M9, hp9, rfl⟩
set_option maxRecDepth 100000 in
theorem w_user_1 {l : Launch} {E : Ee} {M : Mm} {x1 x2 : Int32} {post : Mm → Prop} (hM : CtT l E yX8_user (.code yX8_user cX8_user 3 (some .int) :: gl) RT M [.ref (E.2.2 0), .int x1, .int x2] eIX post) : CtW l E yL_user (.codeWith yL_user cL_user 5 (some .int) wh_user :: gl) RW M [.ref (E.2.2 0), .int x1, .int x2, .ref (E.2.2 504)] (fun r M2 => r = nI 1 ∧ post M2) := by
  refine ctW_of (L0 := [some (.ref (E.2.2 0)), some (.int x1), some (.int x2), some (.ref (E.2.2 504)), none]) (by decide) rfl (Nat.le_of_ble_eq_true rfl) rfl ?_
  intro Z hl hE hnl F X ret
  subst hl hE
  refine jj_aload_n F dL_user_0 rfl ?_
  refine jj_iconst F (v := nI 0) dL_user_1 (by decide) ?_
  refine jj_aload_n F dL_user_2 rfl ?_
  refine jj_iload_n F dL_user_3 rfl ?_
  refine jj_iload_n F dL_user_4 rfl ?_
  have hcat : CatchAt RL wh_user 5 13 eIX NcP := ⟨[], ⟨0, 10, 13, 24⟩, [⟨0, 10, 17, 13⟩], rfl, (fun z hz => by cases hz), by decide, by decide, lk_24, rfl⟩
  refine jj_catV (na := 2) F X hcat cst_IX hM (gl_V mk_L_79 vw_X8_user) rfl rfl rfl (by decide +kernel) ⟨Nat.le_of_ble_eq_true rfl, Nat.le_of_ble_eq_true rfl⟩ kd_0 rfl rfl rfl (Nat.le_of_ble_eq_true rfl) ⟨Nat.le_of_ble_eq_true rfl, Nat.le_of_ble_eq_true rfl⟩ dL_user_5 (fun M9 q9 hp9 => ?_)
  refine jj_astore F dL_user_13 (by rw [hnl]; decide) ?_
  refine jj_iconst F (v := nI 1) dL_user_15 (by decide) ?_
  refine ret _ _ _ _ dL_user_16 rfl ?_
  exact ⟨rfl, hp9⟩
set_option maxRecDepth 100000 in
theorem w_user_2 {l : Launch} {E : Ee} {M : Mm} {x1 x2 : Int32} {post : Mm → Prop} (hM : CtT l E yX8_user (.code yX8_user cX8_user 3 (some .int) :: gl) RT M [.ref (E.2.2 0), .int x1, .int x2] eIA post) : CtW l E yL_user (.codeWith yL_user cL_user 5 (some .int) wh_user :: gl) RW M [.ref (E.2.2 0), .int x1, .int x2, .ref (E.2.2 504)] (fun r M2 => r = nI 2 ∧ post M2) := by
  refine ctW_of (L0 := [some (.ref (E.2.2 0)), some (.int x1), some (.int x2), some (.ref (E.2.2 504)), none]) (by decide) rfl (Nat.le_of_ble_eq_true rfl) rfl ?_
  intro Z hl hE hnl F X ret
  subst hl hE
  refine jj_aload_n F dL_user_0 rfl ?_
  refine jj_iconst F (v := nI 0) dL_user_1 (by decide) ?_
  refine jj_aload_n F dL_user_2 rfl ?_
  refine jj_iload_n F dL_user_3 rfl ?_
  refine jj_iload_n F dL_user_4 rfl ?_
  have hcat : CatchAt RL wh_user 5 17 eIA NcP := ⟨[⟨0, 10, 13, 24⟩], ⟨0, 10, 17, 13⟩, [], rfl, (fun z hz => by
    simp only [List.mem_cons, List.not_mem_nil, or_false] at hz
    rcases hz with rfl
    · exact Or.inr ⟨by decide, eIX, lk_24, Or.inl ⟨rfl, rfl⟩⟩), by decide, by decide, lk_13, rfl⟩
  refine jj_catV (na := 2) F X hcat cst_IA hM (gl_V mk_L_79 vw_X8_user) rfl rfl rfl (by decide +kernel) ⟨Nat.le_of_ble_eq_true rfl, Nat.le_of_ble_eq_true rfl⟩ kd_0 rfl rfl rfl (Nat.le_of_ble_eq_true rfl) ⟨Nat.le_of_ble_eq_true rfl, Nat.le_of_ble_eq_true rfl⟩ dL_user_5 (fun M9 q9 hp9 => ?_)
  refine jj_astore F dL_user_17 (by rw [hnl]; decide) ?_
  refine jj_iconst F (v := nI 2) dL_user_19 (by decide) ?_
  refine ret _ _ _ _ dL_user_20 rfl ?_
  exact ⟨rfl, hp9⟩
