/-! PathText: cell 1 (1 length, 4 point, 5 inRow, 6 number), codes 2, columns 3, rows 4; a state of reading: the number's place k (column or row of point k / 2), the number so far, the numbers -/
abbrev Ps : Type := Nat × Option Nat × (Nat → Nat)
def numI : Option Nat → Int32
  | none => -1
  | some v => nI v
def ptO (f : Nat → Int32) (s : Ps) : Nat → Int32 := fun b => if b = 4 then nI (s.1 / 2) else if b = 5 then b2i (s.1 % 2 == 1) else if b = 6 then numI s.2.1 else f b
def ptM (M : Mm) (s : Ps) : Mm := wA (wA (wA M 1 (ptO (M.1 1) s)) 3 (fun j => nI (s.2.2 (2 * j)))) 4 (fun j => nI (s.2.2 (2 * j + 1)))
def pok (s : Ps) : Prop := s.1 < 12 ∧ (∀ v, s.2.1 = some v → v < 16) ∧ ∀ j, s.2.2 j < 16
def tkD (d : Nat) (s : Ps) : Bool × Ps := match s.2.1 with
  | none => (true, (s.1, some d, fun j => if j = s.1 then d else s.2.2 j))
  | some v => if v = 1 ∧ d < 6 then (true, (s.1, some (10 + d), fun j => if j = s.1 then 10 + d else s.2.2 j)) else (false, s)
def tkC (c : Int32) (s : Ps) : Bool × Ps := if 48 ≤ c ∧ c ≤ 57 then tkD (c - 48).toNatClampNeg s else match s.2.1 with
  | none => (false, s)
  | some _ => if (c = 44 ∧ s.1 % 2 = 0) ∨ (c = 45 ∧ s.1 % 2 = 1 ∧ s.1 < 11) then (true, (s.1 + 1, none, s.2.2)) else (false, s)
def rdF (cd : Nat → Int32) : Nat → Nat → Ps → Nat × Ps
  | 0, i, s => (i, s)
  | n + 1, i, s => if (tkC (cd i) s).1 = true then rdF cd n (i + 1) (tkC (cd i) s).2 else (i, (tkC (cd i) s).2)
theorem ptM_1 (M : Mm) (s : Ps) : (ptM M s).1 1 = ptO (M.1 1) s := by unfold ptM; rw [wA_n (by decide), wA_n (by decide), wA_s]
theorem ptM_3 (M : Mm) (s : Ps) : (ptM M s).1 3 = fun j => nI (s.2.2 (2 * j)) := by unfold ptM; rw [wA_n (by decide), wA_s]
theorem ptM_4 (M : Mm) (s : Ps) : (ptM M s).1 4 = fun j => nI (s.2.2 (2 * j + 1)) := by unfold ptM; rw [wA_s]
theorem ptM_o {M : Mm} {s : Ps} {a : Nat} (h1 : a ≠ 1) (h3 : a ≠ 3) (h4 : a ≠ 4) : (ptM M s).1 a = M.1 a := by unfold ptM; rw [wA_n h4, wA_n h3, wA_n h1]
theorem ptM_2 (M : Mm) (s : Ps) : (ptM M s).2 = M.2 := rfl
theorem ptM_point (M : Mm) (s : Ps) : (ptM M s).1 1 4 = nI (s.1 / 2) := by rw [ptM_1]; rfl
theorem ptM_inRow (M : Mm) (s : Ps) : (ptM M s).1 1 5 = b2i (s.1 % 2 == 1) := by rw [ptM_1]; rfl
theorem ptM_num (M : Mm) (s : Ps) : (ptM M s).1 1 6 = numI s.2.1 := by rw [ptM_1]; rfl
theorem ptM_len (M : Mm) (s : Ps) : (ptM M s).1 1 1 = M.1 1 1 := by rw [ptM_1]; rfl
theorem ptO_ptO (f : Nat → Int32) (s t : Ps) : ptO (ptO f s) t = ptO f t := by
  funext b
  unfold ptO
  by_cases h4 : b = 4
  · simp [h4]
  · by_cases h5 : b = 5
    · simp [h5]
    · by_cases h6 : b = 6
      · simp [h6]
      · simp [h4, h5, h6]
theorem ptM_M (M : Mm) (s t : Ps) : ptM (ptM M s) t = ptM M t := by
  refine mm_ext (fun a => ?_) rfl
  by_cases h4 : a = 4
  · subst h4; rw [ptM_4, ptM_4]
  · by_cases h3 : a = 3
    · subst h3; rw [ptM_3, ptM_3]
    · by_cases h1 : a = 1
      · subst h1; rw [ptM_1, ptM_1, ptM_1, ptO_ptO]
      · rw [ptM_o h1 h3 h4, ptM_o h1 h3 h4, ptM_o h1 h3 h4]
/-- a memory with the object's fields and the two rows as the state says -/
theorem pt_is {M N : Mm} {s : Ps} (h1 : ∀ b, N.1 1 b = ptO (M.1 1) s b) (h3 : N.1 3 = fun j => nI (s.2.2 (2 * j))) (h4 : N.1 4 = fun j => nI (s.2.2 (2 * j + 1))) (ho : ∀ a, a ≠ 1 → a ≠ 3 → a ≠ 4 → N.1 a = M.1 a) (h2 : N.2 = M.2) : N = ptM M s := by
  refine mm_ext (fun a => ?_) h2
  by_cases q4 : a = 4
  · subst q4; rw [ptM_4, h4]
  · by_cases q3 : a = 3
    · subst q3; rw [ptM_3, h3]
    · by_cases q1 : a = 1
      · subst q1; rw [ptM_1]; exact funext h1
      · rw [ptM_o q1 q3 q4, ho a q1 q3 q4]
theorem nI_m1 {v : Nat} (h : v < 2 ^ 31) : ¬ nI v = -1 := by
  intro e
  have h1 := nI_toInt h
  rw [e] at h1
  have h2 : (-1 : Int32).toInt = -1 := by decide
  omega
theorem numI_m1 {s : Ps} (h : pok s) : numI s.2.1 = -1 ↔ s.2.1 = none := by
  constructor
  · intro e
    cases hs : s.2.1 with
    | none => rfl
    | some v =>
      rw [hs] at e
      exact absurd e (nI_m1 (by have := h.2.1 v hs; omega))
  · intro e
    rw [e]
    rfl
theorem pok_D {d : Nat} {s : Ps} (hd : d < 10) (h : pok s) : pok (tkD d s).2 := by
  unfold tkD
  split
  · refine ⟨h.1, fun v hv => ?_, fun j => ?_⟩
    · cases hv; omega
    · show (if j = s.1 then d else s.2.2 j) < 16
      split
      · omega
      · exact h.2.2 j
  · split
    · rename_i v hv q
      refine ⟨h.1, fun v hv => ?_, fun j => ?_⟩
      · cases hv; omega
      · show (if j = s.1 then 10 + d else s.2.2 j) < 16
        split
        · omega
        · exact h.2.2 j
    · exact h
theorem dig_ok {c : Int32} (h : 48 ≤ c ∧ c ≤ 57) : ∃ d, d < 10 ∧ c = nI (48 + d) ∧ (c - 48).toNatClampNeg = d := by
  obtain ⟨h1, h2⟩ := h
  obtain ⟨j, hj, rfl⟩ := nI_of2 (x := c) (M := 57) (n := 57) (by decide) (by rw [Int32.lt_iff_toInt_lt]; rw [Int32.le_iff_toInt_le] at h1; have : (48 : Int32).toInt = 48 := by decide
                                                                             have : (0 : Int32).toInt = 0 := by decide
                                                                             omega) h2
  have h3 : 48 ≤ j := (nI_leI (a := 48) (b := j) (by omega) (by omega)).mp h1
  refine ⟨j - 48, by omega, by rw [show 48 + (j - 48) = j by omega], ?_⟩
  show (nI j - nI 48).toNatClampNeg = j - 48
  rw [pk_sub h3, nI_clamp (by omega)]
theorem pok_C {c : Int32} {s : Ps} (h : pok s) : pok (tkC c s).2 := by
  unfold tkC
  split
  · rename_i q
    obtain ⟨d, hd, -, e⟩ := dig_ok q
    rw [e]
    exact pok_D hd h
  · split
    · exact h
    · split
      · rename_i q
        exact ⟨by show s.1 + 1 < 12; have := h.1; omega, fun v hv => (by cases hv), h.2.2⟩
      · exact h
theorem pok_rd {cd : Nat → Int32} : ∀ {n i : Nat} {s : Ps}, pok s → pok (rdF cd n i s).2
  | 0, _, _, h => h
  | n + 1, i, s, h => by
    unfold rdF
    split
    · exact pok_rd (pok_C h)
    · exact pok_C h
theorem tk_n {d : Nat} {s : Ps} (h : s.2.1 = none) : tkD d s = (true, (s.1, some d, fun j => if j = s.1 then d else s.2.2 j)) := by unfold tkD; rw [h]
theorem numI_1 {s : Ps} (hok : pok s) (h : numI s.2.1 = nI 1) : s.2.1 = some 1 := by
  cases hs : s.2.1 with
  | none => rw [hs] at h; exact absurd h (by decide)
  | some v =>
    rw [hs] at h
    have := hok.2.1 v hs
    rw [(nI_eq (by omega) (by omega)).mp h]
theorem tk_1 {d : Nat} {s : Ps} (h : s.2.1 = some 1) (hd : d < 6) : tkD d s = (true, (s.1, some (10 + d), fun j => if j = s.1 then 10 + d else s.2.2 j)) := by unfold tkD; rw [h]; simp [hd]
theorem tk_x1 {d : Nat} {s : Ps} (hok : pok s) (h5 : ¬ numI s.2.1 = -1) (h : ¬ numI s.2.1 = nI 1) : tkD d s = (false, s) := by
  cases hs : s.2.1 with
  | none => exact absurd ((numI_m1 hok).mpr hs) h5
  | some v =>
    unfold tkD
    rw [hs]
    rw [hs] at h
    have : ¬ v = 1 := by rintro rfl; exact h rfl
    simp [this]
theorem tk_x2 {d : Nat} {s : Ps} (hok : pok s) (h5 : ¬ numI s.2.1 = -1) (h : ¬ d < 6) : tkD d s = (false, s) := by
  cases hs : s.2.1 with
  | none => exact absurd ((numI_m1 hok).mpr hs) h5
  | some v =>
    unfold tkD
    rw [hs]
    simp [h]
set_option maxRecDepth 100000 in
set_option maxHeartbeats 1000000 in
theorem c_X5_takesDigit {l : Launch} {E : Ee} {M : Mm} {d : Nat} (hd : d < 10) {s : Ps} (hok : pok s) : CtI l E yX5_takesDigit (.code yX5_takesDigit cX5_takesDigit 2 (some .boolean) :: gl) ({ frames := 0, cells := 0, slots := 0, locals := 0 } : Room) (ptM M s) [.ref (E.2.2 1), .int (nI d)] 0 0 (fun r M2 => r = b2i (tkD d s).1 ∧ M2 = ptM M (tkD d s).2) := by
  refine ctI_of (L0 := [some (.ref (E.2.2 1)), some (.int (nI d))]) (by decide) rfl (Nat.le_of_ble_eq_true rfl) rfl ?_
  intro Z hl hE hnl F ret
  subst hE
  have in_X5 : ∀ w ∈ u_ws RX5 TX5 7, w ∈ (.code yX5_takesDigit cX5_takesDigit 2 (some .boolean) :: gl) := fun w h => List.mem_cons_of_mem _ (lay_X5 w h)
  have g19 : FG Z 19 5 2 := fg_mk F (C := RX5) (T := TX5) (N := 7) in_X5 rfl (by decide) rfl (List.mem_cons_of_mem _ fk_X5_19)
  have g22 : FG Z 22 5 3 := fg_mk F (C := RX5) (T := TX5) (N := 7) in_X5 rfl (by decide) rfl (List.mem_cons_of_mem _ fk_X5_22)
  have g25 : FG Z 25 5 4 := fg_mk F (C := RX5) (T := TX5) (N := 7) in_X5 rfl (by decide) rfl (List.mem_cons_of_mem _ fk_X5_25)
  have g28 : FG Z 28 5 5 := fg_mk F (C := RX5) (T := TX5) (N := 7) in_X5 rfl (by decide) rfl (List.mem_cons_of_mem _ fk_X5_28)
  have g32 : FG Z 32 5 6 := fg_mk F (C := RX5) (T := TX5) (N := 7) in_X5 rfl (by decide) rfl (List.mem_cons_of_mem _ fk_X5_32)
  have p32 : FP Z 32 5 6 .int := fp_mk F (C := RX5) (T := TX5) (N := 7) in_X5 tyX5_ok nmX5 rfl (by decide) rfl (List.mem_cons_of_mem _ fk_X5_32) rfl (by decide +kernel)
  have kp := kd_PT
  have kc := kd_codes
  have kx := kd_cols
  have ky := kd_prows
  have hp := ptM_point M s
  have hr := ptM_inRow M s
  have hn := ptM_num M s
  have hk := hok.1
  refine jj_aload_n F dX5_takesDigit_0 rfl ?_
  refine jj_geti F g32 (by assumption) (by rfl) dX5_takesDigit_1 ?_
  rw [hn]
  refine jj_iconst F (v := -1) dX5_takesDigit_4 (by decide) ?_
  refine jj_icmp_ne F (tgt := 16) dX5_takesDigit_5 (by decide) (fun h5 => ?_) (fun h5 => ?_)
  · refine jj_aload_n F dX5_takesDigit_16 rfl ?_
    refine jj_geti F g32 (by assumption) (by rfl) dX5_takesDigit_17 ?_
    rw [hn]
    refine jj_iconst F (v := nI 1) dX5_takesDigit_20 (by decide) ?_
    refine jj_icmp_ne F (tgt := 44) dX5_takesDigit_21 (by decide) (fun h21 => ?_) (fun h21 => ?_)
    · refine jj_iconst F (v := nI 0) dX5_takesDigit_44 (by decide) ?_
      refine ret _ _ _ _ dX5_takesDigit_45 (nar_z (Or.inl rfl)) ?_
      first
      | (rw [tk_x1 hok h5 h21]; exact ⟨rfl, rfl⟩)
      | (rw [tk_x2 hok h5 (by rw [nI_add] at h30; rcases Nat.lt_or_ge (10 + d) 16 with w | w; exact absurd h30 (nI_ge w (by omega)); omega)]; exact ⟨rfl, rfl⟩)
    · refine jj_bipush F (v := nI 10) dX5_takesDigit_24 (by decide) ?_
      refine jj_iload_n F dX5_takesDigit_26 rfl ?_
      refine jj_iadd F dX5_takesDigit_27 ?_
      refine jj_bipush F (v := nI 16) dX5_takesDigit_28 (by decide) ?_
      refine jj_icmp_ge F (tgt := 44) dX5_takesDigit_30 (by decide) (fun h30 => ?_) (fun h30 => ?_)
      · refine jj_iconst F (v := nI 0) dX5_takesDigit_44 (by decide) ?_
        refine ret _ _ _ _ dX5_takesDigit_45 (nar_z (Or.inl rfl)) ?_
        first
        | (rw [tk_x1 hok h5 h21]; exact ⟨rfl, rfl⟩)
        | (rw [tk_x2 hok h5 (by rw [nI_add] at h30; rcases Nat.lt_or_ge (10 + d) 16 with w | w; exact absurd h30 (nI_ge w (by omega)); omega)]; exact ⟨rfl, rfl⟩)
      · refine jj_aload_n F dX5_takesDigit_33 rfl ?_
        refine jj_bipush F (v := nI 10) dX5_takesDigit_34 (by decide) ?_
        refine jj_iload_n F dX5_takesDigit_36 rfl ?_
        refine jj_iadd F dX5_takesDigit_37 ?_
        refine jj_puti F p32 (by assumption) (by rfl) dX5_takesDigit_38 ?_
        refine jj_goto F (tgt := 46) dX5_takesDigit_41 (by decide) ?_
        rw [nI_add]
        have hd6 : d < 6 := by rw [nI_add] at h30; rcases Nat.lt_or_ge (10 + d) 16 with w | w; omega; exact absurd (nI_le w (by omega)) h30
        have hs1 := numI_1 hok h21
        have x5 : (wA (ptM M s) 1 (upd ((ptM M s).1 1) 6 (nI (10 + d)))).1 1 5 = b2i (s.1 % 2 == 1) := by rw [wA_s]; simp [upd, hr]
        have x4 : (wA (ptM M s) 1 (upd ((ptM M s).1 1) 6 (nI (10 + d)))).1 1 4 = nI (s.1 / 2) := by rw [wA_s]; simp [upd, hp]
        have x6 : (wA (ptM M s) 1 (upd ((ptM M s).1 1) 6 (nI (10 + d)))).1 1 6 = nI (10 + d) := by rw [wA_s]; simp [upd]
        refine jj_aload_n F dX5_takesDigit_46 rfl ?_
        refine jj_geti F g28 (by assumption) (by rfl) dX5_takesDigit_47 ?_
        rw [x5]
        refine jj_if_eq F (tgt := 69) dX5_takesDigit_50 (by decide) (fun h50 => ?_) (fun h50 => ?_)
        · refine jj_aload_n F dX5_takesDigit_69 rfl ?_
          refine jj_getr F g19 (by assumption) (by rfl) dX5_takesDigit_70 ?_
          refine jj_aload_n F dX5_takesDigit_73 rfl ?_
          refine jj_geti F g25 (by assumption) (by rfl) dX5_takesDigit_74 ?_
          rw [x4]
          refine jj_aload_n F dX5_takesDigit_77 rfl ?_
          refine jj_geti F g32 (by assumption) (by rfl) dX5_takesDigit_78 ?_
          rw [x6]
          refine jj_iast F (by assumption) rfl (by omega) dX5_takesDigit_81 ?_
          have ek : s.1 % 2 = 0 := by cases hq : (s.1 % 2 == 1) <;> rw [hq] at h50 <;> simp at hq <;> first | omega | exact absurd h50 (by decide)
          refine jj_iconst F (v := nI 1) dX5_takesDigit_82 (by decide) ?_
          refine ret _ _ _ _ dX5_takesDigit_83 (nar_z (Or.inr rfl)) ?_
          rw [tk_1 hs1 hd6]
          refine ⟨rfl, pt_is (fun b => ?_) ?_ ?_ (fun a q1 q3 q4 => ?_) rfl⟩
          · rw [wA_n (by decide), wA_s, ptM_1]
            by_cases w : b = 6
            · subst w; simp [upd, ptO, numI]
            · simp [upd, ptO, w]
          · rw [wA_s, wA_n (by decide), ptM_3]
            funext j
            show upd _ _ _ j = nI (if 2 * j = s.1 then 10 + d else s.2.2 (2 * j))
            by_cases w : j = s.1 / 2
            · subst w; rw [if_pos (by omega)]; simp [upd]
            · rw [if_neg (by omega)]; simp [upd, w]
          · rw [wA_n (by decide), wA_n (by decide), ptM_4]
            funext j
            show nI (s.2.2 (2 * j + 1)) = nI (if 2 * j + 1 = s.1 then 10 + d else s.2.2 (2 * j + 1))
            rw [if_neg (by omega)]
          · rw [wA_n (by omega), wA_n q1, ptM_o q1 q3 q4]
        · refine jj_aload_n F dX5_takesDigit_53 rfl ?_
          refine jj_getr F g22 (by assumption) (by rfl) dX5_takesDigit_54 ?_
          refine jj_aload_n F dX5_takesDigit_57 rfl ?_
          refine jj_geti F g25 (by assumption) (by rfl) dX5_takesDigit_58 ?_
          rw [x4]
          refine jj_aload_n F dX5_takesDigit_61 rfl ?_
          refine jj_geti F g32 (by assumption) (by rfl) dX5_takesDigit_62 ?_
          rw [x6]
          refine jj_iast F (by assumption) rfl (by omega) dX5_takesDigit_65 ?_
          refine jj_goto F (tgt := 82) dX5_takesDigit_66 (by decide) ?_
          have ek : s.1 % 2 = 1 := by cases hq : (s.1 % 2 == 1) <;> rw [hq] at h50 <;> simp at hq <;> first | omega | exact absurd h50 (by decide)
          refine jj_iconst F (v := nI 1) dX5_takesDigit_82 (by decide) ?_
          refine ret _ _ _ _ dX5_takesDigit_83 (nar_z (Or.inr rfl)) ?_
          rw [tk_1 hs1 hd6]
          refine ⟨rfl, pt_is (fun b => ?_) ?_ ?_ (fun a q1 q3 q4 => ?_) rfl⟩
          · rw [wA_n (by decide), wA_s, ptM_1]
            by_cases w : b = 6
            · subst w; simp [upd, ptO, numI]
            · simp [upd, ptO, w]
          · rw [wA_n (by decide), wA_n (by decide), ptM_3]
            funext j
            show nI (s.2.2 (2 * j)) = nI (if 2 * j = s.1 then 10 + d else s.2.2 (2 * j))
            rw [if_neg (by omega)]
          · rw [wA_s, wA_n (by decide), ptM_4]
            funext j
            show upd _ _ _ j = nI (if 2 * j + 1 = s.1 then 10 + d else s.2.2 (2 * j + 1))
            by_cases w : j = s.1 / 2
            · subst w; rw [if_pos (by omega)]; simp [upd]
            · rw [if_neg (by omega)]; simp [upd, w]
          · rw [wA_n (by omega), wA_n q1, ptM_o q1 q3 q4]
  · refine jj_aload_n F dX5_takesDigit_8 rfl ?_
    refine jj_iload_n F dX5_takesDigit_9 rfl ?_
    refine jj_puti F p32 (by assumption) (by rfl) dX5_takesDigit_10 ?_
    refine jj_goto F (tgt := 46) dX5_takesDigit_13 (by decide) ?_
    have hs0 := (numI_m1 hok).mp h5
    have x5 : (wA (ptM M s) 1 (upd ((ptM M s).1 1) 6 (nI (d)))).1 1 5 = b2i (s.1 % 2 == 1) := by rw [wA_s]; simp [upd, hr]
    have x4 : (wA (ptM M s) 1 (upd ((ptM M s).1 1) 6 (nI (d)))).1 1 4 = nI (s.1 / 2) := by rw [wA_s]; simp [upd, hp]
    have x6 : (wA (ptM M s) 1 (upd ((ptM M s).1 1) 6 (nI (d)))).1 1 6 = nI (d) := by rw [wA_s]; simp [upd]
    refine jj_aload_n F dX5_takesDigit_46 rfl ?_
    refine jj_geti F g28 (by assumption) (by rfl) dX5_takesDigit_47 ?_
    rw [x5]
    refine jj_if_eq F (tgt := 69) dX5_takesDigit_50 (by decide) (fun h50 => ?_) (fun h50 => ?_)
    · refine jj_aload_n F dX5_takesDigit_69 rfl ?_
      refine jj_getr F g19 (by assumption) (by rfl) dX5_takesDigit_70 ?_
      refine jj_aload_n F dX5_takesDigit_73 rfl ?_
      refine jj_geti F g25 (by assumption) (by rfl) dX5_takesDigit_74 ?_
      rw [x4]
      refine jj_aload_n F dX5_takesDigit_77 rfl ?_
      refine jj_geti F g32 (by assumption) (by rfl) dX5_takesDigit_78 ?_
      rw [x6]
      refine jj_iast F (by assumption) rfl (by omega) dX5_takesDigit_81 ?_
      have ek : s.1 % 2 = 0 := by cases hq : (s.1 % 2 == 1) <;> rw [hq] at h50 <;> simp at hq <;> first | omega | exact absurd h50 (by decide)
      refine jj_iconst F (v := nI 1) dX5_takesDigit_82 (by decide) ?_
      refine ret _ _ _ _ dX5_takesDigit_83 (nar_z (Or.inr rfl)) ?_
      rw [tk_n hs0]
      refine ⟨rfl, pt_is (fun b => ?_) ?_ ?_ (fun a q1 q3 q4 => ?_) rfl⟩
      · rw [wA_n (by decide), wA_s, ptM_1]
        by_cases w : b = 6
        · subst w; simp [upd, ptO, numI]
        · simp [upd, ptO, w]
      · rw [wA_s, wA_n (by decide), ptM_3]
        funext j
        show upd _ _ _ j = nI (if 2 * j = s.1 then d else s.2.2 (2 * j))
        by_cases w : j = s.1 / 2
        · subst w; rw [if_pos (by omega)]; simp [upd]
        · rw [if_neg (by omega)]; simp [upd, w]
      · rw [wA_n (by decide), wA_n (by decide), ptM_4]
        funext j
        show nI (s.2.2 (2 * j + 1)) = nI (if 2 * j + 1 = s.1 then d else s.2.2 (2 * j + 1))
        rw [if_neg (by omega)]
      · rw [wA_n (by omega), wA_n q1, ptM_o q1 q3 q4]
    · refine jj_aload_n F dX5_takesDigit_53 rfl ?_
      refine jj_getr F g22 (by assumption) (by rfl) dX5_takesDigit_54 ?_
      refine jj_aload_n F dX5_takesDigit_57 rfl ?_
      refine jj_geti F g25 (by assumption) (by rfl) dX5_takesDigit_58 ?_
      rw [x4]
      refine jj_aload_n F dX5_takesDigit_61 rfl ?_
      refine jj_geti F g32 (by assumption) (by rfl) dX5_takesDigit_62 ?_
      rw [x6]
      refine jj_iast F (by assumption) rfl (by omega) dX5_takesDigit_65 ?_
      refine jj_goto F (tgt := 82) dX5_takesDigit_66 (by decide) ?_
      have ek : s.1 % 2 = 1 := by cases hq : (s.1 % 2 == 1) <;> rw [hq] at h50 <;> simp at hq <;> first | omega | exact absurd h50 (by decide)
      refine jj_iconst F (v := nI 1) dX5_takesDigit_82 (by decide) ?_
      refine ret _ _ _ _ dX5_takesDigit_83 (nar_z (Or.inr rfl)) ?_
      rw [tk_n hs0]
      refine ⟨rfl, pt_is (fun b => ?_) ?_ ?_ (fun a q1 q3 q4 => ?_) rfl⟩
      · rw [wA_n (by decide), wA_s, ptM_1]
        by_cases w : b = 6
        · subst w; simp [upd, ptO, numI]
        · simp [upd, ptO, w]
      · rw [wA_n (by decide), wA_n (by decide), ptM_3]
        funext j
        show nI (s.2.2 (2 * j)) = nI (if 2 * j = s.1 then d else s.2.2 (2 * j))
        rw [if_neg (by omega)]
      · rw [wA_s, wA_n (by decide), ptM_4]
        funext j
        show upd _ _ _ j = nI (if 2 * j + 1 = s.1 then d else s.2.2 (2 * j + 1))
        by_cases w : j = s.1 / 2
        · subst w; rw [if_pos (by omega)]; simp [upd]
        · rw [if_neg (by omega)]; simp [upd, w]
      · rw [wA_n (by omega), wA_n q1, ptM_o q1 q3 q4]
