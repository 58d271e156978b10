/-! PathText: cell 1 (1 length, 4 point, 5 inRow, 6 number), codes 2, columns 3, rows 4; a state of reading: the number's place k (column or row of point k / 2), the number so far, the numbers -/
abbrev Ps : Type := Nat × Option Nat × (Nat → Nat)
def numI : Option Nat → Int32
  | none => -1
  | some v => nI v
def ptO (f : Nat → Int32) (s : Ps) : Nat → Int32 := fun b => if b = 4 then nI (s.1 / 2) else if b = 5 then b2i (s.1 % 2 == 1) else if b = 6 then numI s.2.1 else f b
def ptM (M : Mm) (s : Ps) : Mm := wA (wA (wA M 1 (ptO (M.1 1) s)) 3 (fun j => nI (s.2.2 (2 * j)))) 4 (fun j => nI (s.2.2 (2 * j + 1)))
def pok (s : Ps) : Prop := s.1 < 12 ∧ (∀ v, s.2.1 = some v → v < 16) ∧ ∀ j, s.2.2 j < 16
def tkD (d : Nat) (s : Ps) : Bool × Ps := match s.2.1 with
  | none => (true, (s.1, some d, fun j => if j = s.1 then d else s.2.2 j))
  | some v => if v = 1 ∧ d < 6 then (true, (s.1, some (10 + d), fun j => if j = s.1 then 10 + d else s.2.2 j)) else (false, s)
def tkC (c : Int32) (s : Ps) : Bool × Ps := if nI 48 ≤ c ∧ c ≤ nI 57 then tkD (c - nI 48).toNatClampNeg s else match s.2.1 with
  | none => (false, s)
  | some _ => if (c = nI 44 ∧ s.1 % 2 = 0) ∨ (c = nI 45 ∧ s.1 % 2 = 1 ∧ s.1 < 11) then (true, (s.1 + 1, none, s.2.2)) else (false, s)
def rdF (cd : Nat → Int32) : Nat → Nat → Ps → Nat × Ps
  | 0, i, s => (i, s)
  | n + 1, i, s => if (tkC (cd i) s).1 = true then rdF cd n (i + 1) (tkC (cd i) s).2 else (i, (tkC (cd i) s).2)
theorem ptM_1 (M : Mm) (s : Ps) : (ptM M s).1 1 = ptO (M.1 1) s := by unfold ptM; rw [wA_n (by decide), wA_n (by decide), wA_s]
theorem ptM_3 (M : Mm) (s : Ps) : (ptM M s).1 3 = fun j => nI (s.2.2 (2 * j)) := by unfold ptM; rw [wA_n (by decide), wA_s]
theorem ptM_4 (M : Mm) (s : Ps) : (ptM M s).1 4 = fun j => nI (s.2.2 (2 * j + 1)) := by unfold ptM; rw [wA_s]
theorem ptM_o {M : Mm} {s : Ps} {a : Nat} (h1 : a ≠ 1) (h3 : a ≠ 3) (h4 : a ≠ 4) : (ptM M s).1 a = M.1 a := by unfold ptM; rw [wA_n h4, wA_n h3, wA_n h1]
theorem ptM_2 (M : Mm) (s : Ps) : (ptM M s).2 = M.2 := rfl
theorem ptM_point (M : Mm) (s : Ps) : (ptM M s).1 1 4 = nI (s.1 / 2) := by rw [ptM_1]; rfl
theorem ptM_inRow (M : Mm) (s : Ps) : (ptM M s).1 1 5 = b2i (s.1 % 2 == 1) := by rw [ptM_1]; rfl
theorem ptM_num (M : Mm) (s : Ps) : (ptM M s).1 1 6 = numI s.2.1 := by rw [ptM_1]; rfl
theorem ptM_len (M : Mm) (s : Ps) : (ptM M s).1 1 1 = M.1 1 1 := by rw [ptM_1]; rfl
theorem ptO_ptO (f : Nat → Int32) (s t : Ps) : ptO (ptO f s) t = ptO f t := by
  funext b
  unfold ptO
  by_cases h4 : b = 4
  · simp [h4]
  · by_cases h5 : b = 5
    · simp [h5]
    · by_cases h6 : b = 6
      · simp [h6]
      · simp [h4, h5, h6]
theorem ptM_M (M : Mm) (s t : Ps) : ptM (ptM M s) t = ptM M t := by
  refine mm_ext (fun a => ?_) rfl
  by_cases h4 : a = 4
  · subst h4; rw [ptM_4, ptM_4]
  · by_cases h3 : a = 3
    · subst h3; rw [ptM_3, ptM_3]
    · by_cases h1 : a = 1
      · subst h1; rw [ptM_1, ptM_1, ptM_1, ptO_ptO]
      · rw [ptM_o h1 h3 h4, ptM_o h1 h3 h4, ptM_o h1 h3 h4]
/-- a memory with the object's fields and the two rows as the state says -/
theorem pt_is {M N : Mm} {s : Ps} (h1 : ∀ b, N.1 1 b = ptO (M.1 1) s b) (h3 : N.1 3 = fun j => nI (s.2.2 (2 * j))) (h4 : N.1 4 = fun j => nI (s.2.2 (2 * j + 1))) (ho : ∀ a, a ≠ 1 → a ≠ 3 → a ≠ 4 → N.1 a = M.1 a) (h2 : N.2 = M.2) : N = ptM M s := by
  refine mm_ext (fun a => ?_) h2
  by_cases q4 : a = 4
  · subst q4; rw [ptM_4, h4]
  · by_cases q3 : a = 3
    · subst q3; rw [ptM_3, h3]
    · by_cases q1 : a = 1
      · subst q1; rw [ptM_1]; exact funext h1
      · rw [ptM_o q1 q3 q4, ho a q1 q3 q4]
theorem nI_m1 {v : Nat} (h : v < 2 ^ 31) : ¬ nI v = -1 := by
  intro e
  have h1 := nI_toInt h
  rw [e] at h1
  have h2 : (-1 : Int32).toInt = -1 := by decide
  omega
theorem numI_m1 {s : Ps} (h : pok s) : numI s.2.1 = -1 ↔ s.2.1 = none := by
  constructor
  · intro e
    cases hs : s.2.1 with
    | none => rfl
    | some v =>
      rw [hs] at e
      exact absurd e (nI_m1 (by have := h.2.1 v hs; omega))
  · intro e
    rw [e]
    rfl
theorem pok_D {d : Nat} {s : Ps} (hd : d < 10) (h : pok s) : pok (tkD d s).2 := by
  unfold tkD
  split
  · refine ⟨h.1, fun v hv => ?_, fun j => ?_⟩
    · cases hv; omega
    · show (if j = s.1 then d else s.2.2 j) < 16
      split
      · omega
      · exact h.2.2 j
  · split
    · rename_i v hv q
      refine ⟨h.1, fun v hv => ?_, fun j => ?_⟩
      · cases hv; omega
      · show (if j = s.1 then 10 + d else s.2.2 j) < 16
        split
        · omega
        · exact h.2.2 j
    · exact h
theorem dig_ok {c : Int32} (h : nI 48 ≤ c ∧ c ≤ nI 57) : ∃ d, d < 10 ∧ c = nI (48 + d) ∧ (c - nI 48).toNatClampNeg = d := by
  obtain ⟨h1, h2⟩ := h
  have h0 : ¬ c < 0 := by
    rw [Int32.lt_iff_toInt_lt]
    rw [Int32.le_iff_toInt_le] at h1
    have e1 : (nI 48).toInt = 48 := by decide
    have e2 : (0 : Int32).toInt = 0 := by decide
    omega
  obtain ⟨j, hj, rfl⟩ := nI_of h0
  have h3 : 48 ≤ j := (nI_leI (by omega) hj).mp h1
  have h4 : j ≤ 57 := (nI_leI hj (by omega)).mp h2
  refine ⟨j - 48, by omega, by rw [show 48 + (j - 48) = j by omega], ?_⟩
  rw [pk_sub h3, nI_clamp (by omega)]
theorem pok_C {c : Int32} {s : Ps} (h : pok s) : pok (tkC c s).2 := by
  unfold tkC
  split
  · rename_i q
    obtain ⟨d, hd, -, e⟩ := dig_ok q
    rw [e]
    exact pok_D hd h
  · split
    · exact h
    · split
      · rename_i q
        exact ⟨by show s.1 + 1 < 12; have := h.1; omega, fun v hv => (by cases hv), h.2.2⟩
      · exact h
theorem pok_rd {cd : Nat → Int32} : ∀ {n i : Nat} {s : Ps}, pok s → pok (rdF cd n i s).2
  | 0, _, _, h => h
  | n + 1, i, s, h => by
    unfold rdF
    split
    · exact pok_rd (pok_C h)
    · exact pok_C h
theorem tk_n {d : Nat} {s : Ps} (h : s.2.1 = none) : tkD d s = (true, (s.1, some d, fun j => if j = s.1 then d else s.2.2 j)) := by unfold tkD; rw [h]
theorem numI_1 {s : Ps} (hok : pok s) (h : numI s.2.1 = nI 1) : s.2.1 = some 1 := by
  cases hs : s.2.1 with
  | none => rw [hs] at h; exact absurd h (by decide)
  | some v =>
    rw [hs] at h
    have := hok.2.1 v hs
    rw [(nI_eq (by omega) (by omega)).mp h]
theorem tk_1 {d : Nat} {s : Ps} (h : s.2.1 = some 1) (hd : d < 6) : tkD d s = (true, (s.1, some (10 + d), fun j => if j = s.1 then 10 + d else s.2.2 j)) := by unfold tkD; rw [h]; simp [hd]
theorem tk_x1 {d : Nat} {s : Ps} (hok : pok s) (h5 : ¬ numI s.2.1 = -1) (h : ¬ numI s.2.1 = nI 1) : tkD d s = (false, s) := by
  cases hs : s.2.1 with
  | none => exact absurd ((numI_m1 hok).mpr hs) h5
  | some v =>
    unfold tkD
    rw [hs]
    rw [hs] at h
    have : ¬ v = 1 := by rintro rfl; exact h rfl
    simp [this]
theorem tk_x2 {d : Nat} {s : Ps} (hok : pok s) (h5 : ¬ numI s.2.1 = -1) (h : ¬ d < 6) : tkD d s = (false, s) := by
  cases hs : s.2.1 with
  | none => exact absurd ((numI_m1 hok).mpr hs) h5
  | some v =>
    unfold tkD
    rw [hs]
    simp [h]
set_option maxRecDepth 100000 in
set_option maxHeartbeats 1000000 in
theorem c_X5_takesDigit {l : Launch} {E : Ee} {M : Mm} {d : Nat} (hd : d < 10) {s : Ps} (hok : pok s) : CtI l E yX5_takesDigit (.code yX5_takesDigit cX5_takesDigit 2 (some .boolean) :: gl) ({ frames := 0, cells := 0, slots := 0, locals := 0 } : Room) (ptM M s) [.ref (E.2.2 1), .int (nI d)] 0 0 (fun r M2 => r = b2i (tkD d s).1 ∧ M2 = ptM M (tkD d s).2) := by
  refine ctI_of (L0 := [some (.ref (E.2.2 1)), some (.int (nI d))]) (by decide) rfl (Nat.le_of_ble_eq_true rfl) rfl ?_
  intro Z hl hE hnl F ret
  subst hE
  have in_X5 : ∀ w ∈ u_ws RX5 TX5 7, w ∈ (.code yX5_takesDigit cX5_takesDigit 2 (some .boolean) :: gl) := fun w h => List.mem_cons_of_mem _ (lay_X5 w h)
  have g19 : FG Z 19 5 2 := fg_mk F (C := RX5) (T := TX5) (N := 7) in_X5 rfl (by decide) rfl (List.mem_cons_of_mem _ fk_X5_19)
  have g22 : FG Z 22 5 3 := fg_mk F (C := RX5) (T := TX5) (N := 7) in_X5 rfl (by decide) rfl (List.mem_cons_of_mem _ fk_X5_22)
  have g25 : FG Z 25 5 4 := fg_mk F (C := RX5) (T := TX5) (N := 7) in_X5 rfl (by decide) rfl (List.mem_cons_of_mem _ fk_X5_25)
  have g28 : FG Z 28 5 5 := fg_mk F (C := RX5) (T := TX5) (N := 7) in_X5 rfl (by decide) rfl (List.mem_cons_of_mem _ fk_X5_28)
  have g32 : FG Z 32 5 6 := fg_mk F (C := RX5) (T := TX5) (N := 7) in_X5 rfl (by decide) rfl (List.mem_cons_of_mem _ fk_X5_32)
  have p32 : FP Z 32 5 6 .int := fp_mk F (C := RX5) (T := TX5) (N := 7) in_X5 tyX5_ok nmX5 rfl (by decide) rfl (List.mem_cons_of_mem _ fk_X5_32) rfl (by decide +kernel)
  have kp := kd_PT
  have kc := kd_codes
  have kx := kd_cols
  have ky := kd_prows
  have hp := ptM_point M s
  have hr := ptM_inRow M s
  have hn := ptM_num M s
  have hk := hok.1
  refine jj_aload_n F dX5_takesDigit_0 rfl ?_
  refine jj_geti F g32 (by assumption) (by rfl) dX5_takesDigit_1 ?_
  rw [hn]
  refine jj_iconst F (v := -1) dX5_takesDigit_4 (by decide) ?_
  refine jj_icmp_ne F (tgt := 16) dX5_takesDigit_5 (by decide) (fun h5 => ?_) (fun h5 => ?_)
  · refine jj_aload_n F dX5_takesDigit_16 rfl ?_
    refine jj_geti F g32 (by assumption) (by rfl) dX5_takesDigit_17 ?_
    rw [hn]
    refine jj_iconst F (v := nI 1) dX5_takesDigit_20 (by decide) ?_
    refine jj_icmp_ne F (tgt := 44) dX5_takesDigit_21 (by decide) (fun h21 => ?_) (fun h21 => ?_)
    · refine jj_iconst F (v := nI 0) dX5_takesDigit_44 (by decide) ?_
      refine ret _ _ _ _ dX5_takesDigit_45 (nar_z (Or.inl rfl)) ?_
      first
      | (rw [tk_x1 hok h5 h21]; exact ⟨rfl, rfl⟩)
      | (rw [tk_x2 hok h5 (by rw [nI_add] at h30; rcases Nat.lt_or_ge (10 + d) 16 with w | w; exact absurd h30 (nI_ge w (by omega)); omega)]; exact ⟨rfl, rfl⟩)
    · refine jj_bipush F (v := nI 10) dX5_takesDigit_24 (by decide) ?_
      refine jj_iload_n F dX5_takesDigit_26 rfl ?_
      refine jj_iadd F dX5_takesDigit_27 ?_
      refine jj_bipush F (v := nI 16) dX5_takesDigit_28 (by decide) ?_
      refine jj_icmp_ge F (tgt := 44) dX5_takesDigit_30 (by decide) (fun h30 => ?_) (fun h30 => ?_)
      · refine jj_iconst F (v := nI 0) dX5_takesDigit_44 (by decide) ?_
        refine ret _ _ _ _ dX5_takesDigit_45 (nar_z (Or.inl rfl)) ?_
        first
        | (rw [tk_x1 hok h5 h21]; exact ⟨rfl, rfl⟩)
        | (rw [tk_x2 hok h5 (by rw [nI_add] at h30; rcases Nat.lt_or_ge (10 + d) 16 with w | w; exact absurd h30 (nI_ge w (by omega)); omega)]; exact ⟨rfl, rfl⟩)
      · refine jj_aload_n F dX5_takesDigit_33 rfl ?_
        refine jj_bipush F (v := nI 10) dX5_takesDigit_34 (by decide) ?_
        refine jj_iload_n F dX5_takesDigit_36 rfl ?_
        refine jj_iadd F dX5_takesDigit_37 ?_
        refine jj_puti F p32 (by assumption) (by rfl) dX5_takesDigit_38 ?_
        refine jj_goto F (tgt := 46) dX5_takesDigit_41 (by decide) ?_
        rw [nI_add]
        have hd6 : d < 6 := by rw [nI_add] at h30; rcases Nat.lt_or_ge (10 + d) 16 with w | w; omega; exact absurd (nI_le w (by omega)) h30
        have hs1 := numI_1 hok h21
        have x5 : (wA (ptM M s) 1 (upd ((ptM M s).1 1) 6 (nI (10 + d)))).1 1 5 = b2i (s.1 % 2 == 1) := by rw [wA_s]; simp [upd, hr]
        have x4 : (wA (ptM M s) 1 (upd ((ptM M s).1 1) 6 (nI (10 + d)))).1 1 4 = nI (s.1 / 2) := by rw [wA_s]; simp [upd, hp]
        have x6 : (wA (ptM M s) 1 (upd ((ptM M s).1 1) 6 (nI (10 + d)))).1 1 6 = nI (10 + d) := by rw [wA_s]; simp [upd]
        refine jj_aload_n F dX5_takesDigit_46 rfl ?_
        refine jj_geti F g28 (by assumption) (by rfl) dX5_takesDigit_47 ?_
        rw [x5]
        refine jj_if_eq F (tgt := 69) dX5_takesDigit_50 (by decide) (fun h50 => ?_) (fun h50 => ?_)
        · refine jj_aload_n F dX5_takesDigit_69 rfl ?_
          refine jj_getr F g19 (by assumption) (by rfl) dX5_takesDigit_70 ?_
          refine jj_aload_n F dX5_takesDigit_73 rfl ?_
          refine jj_geti F g25 (by assumption) (by rfl) dX5_takesDigit_74 ?_
          rw [x4]
          refine jj_aload_n F dX5_takesDigit_77 rfl ?_
          refine jj_geti F g32 (by assumption) (by rfl) dX5_takesDigit_78 ?_
          rw [x6]
          refine jj_iast F (by assumption) rfl (by omega) dX5_takesDigit_81 ?_
          have ek : s.1 % 2 = 0 := by cases hq : (s.1 % 2 == 1) <;> rw [hq] at h50 <;> simp at hq <;> first | omega | exact absurd h50 (by decide)
          refine jj_iconst F (v := nI 1) dX5_takesDigit_82 (by decide) ?_
          refine ret _ _ _ _ dX5_takesDigit_83 (nar_z (Or.inr rfl)) ?_
          rw [tk_1 hs1 hd6]
          refine ⟨rfl, pt_is (fun b => ?_) ?_ ?_ (fun a q1 q3 q4 => ?_) rfl⟩
          · rw [wA_n (by decide), wA_s, ptM_1]
            by_cases w : b = 6
            · subst w; simp [upd, ptO, numI]
            · simp [upd, ptO, w]
          · rw [wA_s, wA_n (by decide), ptM_3]
            funext j
            show upd _ _ _ j = nI (if 2 * j = s.1 then 10 + d else s.2.2 (2 * j))
            by_cases w : j = s.1 / 2
            · subst w; rw [if_pos (by omega)]; simp [upd]
            · rw [if_neg (by omega)]; simp [upd, w]
          · rw [wA_n (by decide), wA_n (by decide), ptM_4]
            funext j
            show nI (s.2.2 (2 * j + 1)) = nI (if 2 * j + 1 = s.1 then 10 + d else s.2.2 (2 * j + 1))
            rw [if_neg (by omega)]
          · rw [wA_n (by omega), wA_n q1, ptM_o q1 q3 q4]
        · refine jj_aload_n F dX5_takesDigit_53 rfl ?_
          refine jj_getr F g22 (by assumption) (by rfl) dX5_takesDigit_54 ?_
          refine jj_aload_n F dX5_takesDigit_57 rfl ?_
          refine jj_geti F g25 (by assumption) (by rfl) dX5_takesDigit_58 ?_
          rw [x4]
          refine jj_aload_n F dX5_takesDigit_61 rfl ?_
          refine jj_geti F g32 (by assumption) (by rfl) dX5_takesDigit_62 ?_
          rw [x6]
          refine jj_iast F (by assumption) rfl (by omega) dX5_takesDigit_65 ?_
          refine jj_goto F (tgt := 82) dX5_takesDigit_66 (by decide) ?_
          have ek : s.1 % 2 = 1 := by cases hq : (s.1 % 2 == 1) <;> rw [hq] at h50 <;> simp at hq <;> first | omega | exact absurd h50 (by decide)
          refine jj_iconst F (v := nI 1) dX5_takesDigit_82 (by decide) ?_
          refine ret _ _ _ _ dX5_takesDigit_83 (nar_z (Or.inr rfl)) ?_
          rw [tk_1 hs1 hd6]
          refine ⟨rfl, pt_is (fun b => ?_) ?_ ?_ (fun a q1 q3 q4 => ?_) rfl⟩
          · rw [wA_n (by decide), wA_s, ptM_1]
            by_cases w : b = 6
            · subst w; simp [upd, ptO, numI]
            · simp [upd, ptO, w]
          · rw [wA_n (by decide), wA_n (by decide), ptM_3]
            funext j
            show nI (s.2.2 (2 * j)) = nI (if 2 * j = s.1 then 10 + d else s.2.2 (2 * j))
            rw [if_neg (by omega)]
          · rw [wA_s, wA_n (by decide), ptM_4]
            funext j
            show upd _ _ _ j = nI (if 2 * j + 1 = s.1 then 10 + d else s.2.2 (2 * j + 1))
            by_cases w : j = s.1 / 2
            · subst w; rw [if_pos (by omega)]; simp [upd]
            · rw [if_neg (by omega)]; simp [upd, w]
          · rw [wA_n (by omega), wA_n q1, ptM_o q1 q3 q4]
  · refine jj_aload_n F dX5_takesDigit_8 rfl ?_
    refine jj_iload_n F dX5_takesDigit_9 rfl ?_
    refine jj_puti F p32 (by assumption) (by rfl) dX5_takesDigit_10 ?_
    refine jj_goto F (tgt := 46) dX5_takesDigit_13 (by decide) ?_
    have hs0 := (numI_m1 hok).mp h5
    have x5 : (wA (ptM M s) 1 (upd ((ptM M s).1 1) 6 (nI (d)))).1 1 5 = b2i (s.1 % 2 == 1) := by rw [wA_s]; simp [upd, hr]
    have x4 : (wA (ptM M s) 1 (upd ((ptM M s).1 1) 6 (nI (d)))).1 1 4 = nI (s.1 / 2) := by rw [wA_s]; simp [upd, hp]
    have x6 : (wA (ptM M s) 1 (upd ((ptM M s).1 1) 6 (nI (d)))).1 1 6 = nI (d) := by rw [wA_s]; simp [upd]
    refine jj_aload_n F dX5_takesDigit_46 rfl ?_
    refine jj_geti F g28 (by assumption) (by rfl) dX5_takesDigit_47 ?_
    rw [x5]
    refine jj_if_eq F (tgt := 69) dX5_takesDigit_50 (by decide) (fun h50 => ?_) (fun h50 => ?_)
    · refine jj_aload_n F dX5_takesDigit_69 rfl ?_
      refine jj_getr F g19 (by assumption) (by rfl) dX5_takesDigit_70 ?_
      refine jj_aload_n F dX5_takesDigit_73 rfl ?_
      refine jj_geti F g25 (by assumption) (by rfl) dX5_takesDigit_74 ?_
      rw [x4]
      refine jj_aload_n F dX5_takesDigit_77 rfl ?_
      refine jj_geti F g32 (by assumption) (by rfl) dX5_takesDigit_78 ?_
      rw [x6]
      refine jj_iast F (by assumption) rfl (by omega) dX5_takesDigit_81 ?_
      have ek : s.1 % 2 = 0 := by cases hq : (s.1 % 2 == 1) <;> rw [hq] at h50 <;> simp at hq <;> first | omega | exact absurd h50 (by decide)
      refine jj_iconst F (v := nI 1) dX5_takesDigit_82 (by decide) ?_
      refine ret _ _ _ _ dX5_takesDigit_83 (nar_z (Or.inr rfl)) ?_
      rw [tk_n hs0]
      refine ⟨rfl, pt_is (fun b => ?_) ?_ ?_ (fun a q1 q3 q4 => ?_) rfl⟩
      · rw [wA_n (by decide), wA_s, ptM_1]
        by_cases w : b = 6
        · subst w; simp [upd, ptO, numI]
        · simp [upd, ptO, w]
      · rw [wA_s, wA_n (by decide), ptM_3]
        funext j
        show upd _ _ _ j = nI (if 2 * j = s.1 then d else s.2.2 (2 * j))
        by_cases w : j = s.1 / 2
        · subst w; rw [if_pos (by omega)]; simp [upd]
        · rw [if_neg (by omega)]; simp [upd, w]
      · rw [wA_n (by decide), wA_n (by decide), ptM_4]
        funext j
        show nI (s.2.2 (2 * j + 1)) = nI (if 2 * j + 1 = s.1 then d else s.2.2 (2 * j + 1))
        rw [if_neg (by omega)]
      · rw [wA_n (by omega), wA_n q1, ptM_o q1 q3 q4]
    · refine jj_aload_n F dX5_takesDigit_53 rfl ?_
      refine jj_getr F g22 (by assumption) (by rfl) dX5_takesDigit_54 ?_
      refine jj_aload_n F dX5_takesDigit_57 rfl ?_
      refine jj_geti F g25 (by assumption) (by rfl) dX5_takesDigit_58 ?_
      rw [x4]
      refine jj_aload_n F dX5_takesDigit_61 rfl ?_
      refine jj_geti F g32 (by assumption) (by rfl) dX5_takesDigit_62 ?_
      rw [x6]
      refine jj_iast F (by assumption) rfl (by omega) dX5_takesDigit_65 ?_
      refine jj_goto F (tgt := 82) dX5_takesDigit_66 (by decide) ?_
      have ek : s.1 % 2 = 1 := by cases hq : (s.1 % 2 == 1) <;> rw [hq] at h50 <;> simp at hq <;> first | omega | exact absurd h50 (by decide)
      refine jj_iconst F (v := nI 1) dX5_takesDigit_82 (by decide) ?_
      refine ret _ _ _ _ dX5_takesDigit_83 (nar_z (Or.inr rfl)) ?_
      rw [tk_n hs0]
      refine ⟨rfl, pt_is (fun b => ?_) ?_ ?_ (fun a q1 q3 q4 => ?_) rfl⟩
      · rw [wA_n (by decide), wA_s, ptM_1]
        by_cases w : b = 6
        · subst w; simp [upd, ptO, numI]
        · simp [upd, ptO, w]
      · rw [wA_n (by decide), wA_n (by decide), ptM_3]
        funext j
        show nI (s.2.2 (2 * j)) = nI (if 2 * j = s.1 then d else s.2.2 (2 * j))
        rw [if_neg (by omega)]
      · rw [wA_s, wA_n (by decide), ptM_4]
        funext j
        show upd _ _ _ j = nI (if 2 * j + 1 = s.1 then d else s.2.2 (2 * j + 1))
        by_cases w : j = s.1 / 2
        · subst w; rw [if_pos (by omega)]; simp [upd]
        · rw [if_neg (by omega)]; simp [upd, w]
      · rw [wA_n (by omega), wA_n q1, ptM_o q1 q3 q4]
theorem tkC_d {c : Int32} {s : Ps} {d : Nat} (h : nI 48 ≤ c ∧ c ≤ nI 57) (he : (c - nI 48).toNatClampNeg = d) : tkC c s = tkD d s := by unfold tkC; rw [if_pos h, he]
theorem tkC_n {c : Int32} {s : Ps} (h : ¬ (nI 48 ≤ c ∧ c ≤ nI 57)) (hs : s.2.1 = none) : tkC c s = (false, s) := by unfold tkC; rw [if_neg h, hs]
theorem tkC_y {c : Int32} {s : Ps} (h : ¬ (nI 48 ≤ c ∧ c ≤ nI 57)) (hs : ¬ s.2.1 = none) (hc : (c = nI 44 ∧ s.1 % 2 = 0) ∨ (c = nI 45 ∧ s.1 % 2 = 1 ∧ s.1 < 11)) : tkC c s = (true, (s.1 + 1, none, s.2.2)) := by
  unfold tkC
  rw [if_neg h]
  split
  · rename_i q; exact absurd q hs
  · rw [if_pos hc]
theorem tkC_f {c : Int32} {s : Ps} (h : ¬ (nI 48 ≤ c ∧ c ≤ nI 57)) (hc : ¬ ((c = nI 44 ∧ s.1 % 2 = 0) ∨ (c = nI 45 ∧ s.1 % 2 = 1 ∧ s.1 < 11))) : tkC c s = (false, s) := by
  unfold tkC
  rw [if_neg h]
  split
  · rfl
  · rw [if_neg hc]
theorem rdF_stop {cd : Nat → Int32} {n i : Nat} {s : Ps} (h : (tkC (cd i) s).1 = false) : rdF cd (n + 1) i s = (i, (tkC (cd i) s).2) := by
  show (if (tkC (cd i) s).1 = true then _ else _) = _
  rw [h]
  simp
theorem rdF_go {cd : Nat → Int32} {n i : Nat} {s : Ps} (h : (tkC (cd i) s).1 = true) : rdF cd (n + 1) i s = rdF cd n (i + 1) (tkC (cd i) s).2 := by
  show (if (tkC (cd i) s).1 = true then _ else _) = _
  rw [h]
  simp
theorem pok_0 {vals : Nat → Nat} (h : ∀ j, vals j < 16) : pok (0, none, vals) := ⟨by show 0 < 12; omega, fun v hv => (by cases hv), h⟩
theorem odd_n0 {k : Nat} (h : ¬ b2i (k % 2 == 1) = 0) : k % 2 = 1 := by
  rw [b2i_n0] at h
  simpa using h
theorem odd_0 {k : Nat} (h : b2i (k % 2 == 1) = 0) : k % 2 = 0 := by
  rw [b2i_0] at h
  simp at h
  omega
set_option maxRecDepth 100000 in
set_option maxHeartbeats 1000000 in
theorem c_X5_takes {l : Launch} {E : Ee} {M : Mm} {c : Int32} {s : Ps} (hok : pok s) : CtI l E yX5_takes (.code yX5_takes cX5_takes 2 (some .boolean) :: gl) ({ frames := 1, cells := 0, slots := 0, locals := 21 } : Room) (ptM M s) [.ref (E.2.2 1), .int c] 0 0 (fun r M2 => r = b2i (tkC c s).1 ∧ M2 = ptM M (tkC c s).2) := by
  refine ctI_of (L0 := [some (.ref (E.2.2 1)), some (.int c)]) (by decide) rfl (Nat.le_of_ble_eq_true rfl) rfl ?_
  intro Z hl hE hnl F ret
  subst hE
  have in_X5 : ∀ w ∈ u_ws RX5 TX5 7, w ∈ (.code yX5_takes cX5_takes 2 (some .boolean) :: gl) := fun w h => List.mem_cons_of_mem _ (lay_X5 w h)
  have g25 : FG Z 25 5 4 := fg_mk F (C := RX5) (T := TX5) (N := 7) in_X5 rfl (by decide) rfl (List.mem_cons_of_mem _ fk_X5_25)
  have g28 : FG Z 28 5 5 := fg_mk F (C := RX5) (T := TX5) (N := 7) in_X5 rfl (by decide) rfl (List.mem_cons_of_mem _ fk_X5_28)
  have g32 : FG Z 32 5 6 := fg_mk F (C := RX5) (T := TX5) (N := 7) in_X5 rfl (by decide) rfl (List.mem_cons_of_mem _ fk_X5_32)
  have p25 : FP Z 25 5 4 .int := fp_mk F (C := RX5) (T := TX5) (N := 7) in_X5 tyX5_ok nmX5 rfl (by decide) rfl (List.mem_cons_of_mem _ fk_X5_25) rfl (by decide +kernel)
  have p28 : FP Z 28 5 5 .boolean := fp_mk F (C := RX5) (T := TX5) (N := 7) in_X5 tyX5_ok nmX5 rfl (by decide) rfl (List.mem_cons_of_mem _ fk_X5_28) rfl (by decide +kernel)
  have p32 : FP Z 32 5 6 .int := fp_mk F (C := RX5) (T := TX5) (N := 7) in_X5 tyX5_ok nmX5 rfl (by decide) rfl (List.mem_cons_of_mem _ fk_X5_32) rfl (by decide +kernel)
  have kp := kd_PT
  have kc := kd_codes
  have kx := kd_cols
  have ky := kd_prows
  have hp := ptM_point M s
  have hr := ptM_inRow M s
  have hn := ptM_num M s
  have hk := hok.1
  refine jj_iload_n F dX5_takes_0 rfl ?_
  refine jj_bipush F (v := nI 48) dX5_takes_1 (by decide) ?_
  refine jj_icmp_lt F (tgt := 21) dX5_takes_3 (by decide) (fun h3 => ?_) (fun h3 => ?_)
  · have hnd : ¬ (nI 48 ≤ c ∧ c ≤ nI 57) := by first | exact fun w => absurd h3 (i32_le_nlt w.1) | exact fun w => absurd h9 (i32_le_nlt w.2)
    refine jj_aload_n F dX5_takes_21 rfl ?_
    refine jj_geti F g32 (by assumption) (by rfl) dX5_takes_22 ?_
    rw [hn]
    refine jj_iconst F (v := -1) dX5_takes_25 (by decide) ?_
    refine jj_icmp_ne F (tgt := 31) dX5_takes_26 (by decide) (fun h26 => ?_) (fun h26 => ?_)
    · have hsn : ¬ s.2.1 = none := fun w => h26 ((numI_m1 hok).mpr w)
      refine jj_iload_n F dX5_takes_31 rfl ?_
      refine jj_bipush F (v := nI 44) dX5_takes_32 (by decide) ?_
      refine jj_icmp_ne F (tgt := 56) dX5_takes_34 (by decide) (fun h34 => ?_) (fun h34 => ?_)
      · refine jj_iload_n F dX5_takes_56 rfl ?_
        refine jj_bipush F (v := nI 45) dX5_takes_57 (by decide) ?_
        refine jj_icmp_ne F (tgt := 102) dX5_takes_59 (by decide) (fun h59 => ?_) (fun h59 => ?_)
        · refine jj_iconst F (v := nI 0) dX5_takes_102 (by decide) ?_
          refine ret _ _ _ _ dX5_takes_103 (by first | rfl | exact nar_z (by first | exact Or.inl rfl | exact Or.inr rfl | exact b2i_01 _ | assumption)) ?_
          rw [tkC_f hnd ?_]
          · exact ⟨rfl, rfl⟩
          · rintro (⟨w1, w2⟩ | ⟨w1, w2, w3⟩)
            · first
              | exact h34 w1
              | (have := odd_n0 h41; omega)
            · first
              | exact h59 w1
              | (have := odd_0 h66; omega)
              | (rw [nI_add] at h77; exact absurd h77 (nI_ge (by omega) (by omega)))
        · refine jj_aload_n F dX5_takes_62 rfl ?_
          refine jj_geti F g28 (by assumption) (by rfl) dX5_takes_63 ?_
          rw [hr]
          refine jj_if_eq F (tgt := 102) dX5_takes_66 (by decide) (fun h66 => ?_) (fun h66 => ?_)
          · refine jj_iconst F (v := nI 0) dX5_takes_102 (by decide) ?_
            refine ret _ _ _ _ dX5_takes_103 (by first | rfl | exact nar_z (by first | exact Or.inl rfl | exact Or.inr rfl | exact b2i_01 _ | assumption)) ?_
            rw [tkC_f hnd ?_]
            · exact ⟨rfl, rfl⟩
            · rintro (⟨w1, w2⟩ | ⟨w1, w2, w3⟩)
              · first
                | exact h34 w1
                | (have := odd_n0 h41; omega)
              · first
                | exact h59 w1
                | (have := odd_0 h66; omega)
                | (rw [nI_add] at h77; exact absurd h77 (nI_ge (by omega) (by omega)))
          · refine jj_aload_n F dX5_takes_69 rfl ?_
            refine jj_geti F g25 (by assumption) (by rfl) dX5_takes_70 ?_
            rw [hp]
            refine jj_iconst F (v := nI 1) dX5_takes_73 (by decide) ?_
            refine jj_iadd F dX5_takes_74 ?_
            refine jj_bipush F (v := nI 6) dX5_takes_75 (by decide) ?_
            refine jj_icmp_ge F (tgt := 102) dX5_takes_77 (by decide) (fun h77 => ?_) (fun h77 => ?_)
            · refine jj_iconst F (v := nI 0) dX5_takes_102 (by decide) ?_
              refine ret _ _ _ _ dX5_takes_103 (by first | rfl | exact nar_z (by first | exact Or.inl rfl | exact Or.inr rfl | exact b2i_01 _ | assumption)) ?_
              rw [tkC_f hnd ?_]
              · exact ⟨rfl, rfl⟩
              · rintro (⟨w1, w2⟩ | ⟨w1, w2, w3⟩)
                · first
                  | exact h34 w1
                  | (have := odd_n0 h41; omega)
                · first
                  | exact h59 w1
                  | (have := odd_0 h66; omega)
                  | (rw [nI_add] at h77; exact absurd h77 (nI_ge (by omega) (by omega)))
            · refine jj_aload_n F dX5_takes_80 rfl ?_
              refine jj_dup F dX5_takes_81 rfl ?_
              refine jj_geti F g25 (by assumption) (by rfl) dX5_takes_82 ?_
              rw [hp]
              refine jj_iconst F (v := nI 1) dX5_takes_85 (by decide) ?_
              refine jj_iadd F dX5_takes_86 ?_
              refine jj_puti F p25 (by assumption) (by rfl) dX5_takes_87 ?_
              refine jj_aload_n F dX5_takes_90 rfl ?_
              refine jj_iconst F (v := nI 0) dX5_takes_91 (by decide) ?_
              refine jj_putz F p28 (by assumption) (by rfl) (by first | exact Or.inl rfl | exact Or.inr rfl | assumption) dX5_takes_92 ?_
              refine jj_aload_n F dX5_takes_95 rfl ?_
              refine jj_iconst F (v := -1) dX5_takes_96 (by decide) ?_
              refine jj_puti F p32 (by assumption) (by rfl) dX5_takes_97 ?_
              refine jj_iconst F (v := nI 1) dX5_takes_100 (by decide) ?_
              refine ret _ _ _ _ dX5_takes_101 (by first | rfl | exact nar_z (by first | exact Or.inl rfl | exact Or.inr rfl | exact b2i_01 _ | assumption)) ?_
              have od := odd_n0 h66
              have k11 : s.1 < 11 := by rw [nI_add] at h77; rcases Nat.lt_or_ge (s.1 / 2 + 1) 6 with w | w; omega; exact absurd (nI_le w (by omega)) h77
              rw [tkC_y hnd hsn (Or.inr ⟨h59, od, k11⟩)]
              refine ⟨rfl, pt_is (fun b => ?_) ?_ ?_ (fun a q1 q3 q4 => ?_) rfl⟩
              · simp only [wA_s]
                rw [ptM_1, nI_add]
                by_cases w6 : b = 6
                · subst w6; simp [upd, ptO, numI]
                · by_cases w5 : b = 5
                  · subst w5; simp [upd, ptO, show (s.1 + 1) % 2 = 0 by omega, b2i]
                  · by_cases w4 : b = 4
                    · subst w4; simp [upd, ptO, show (s.1 + 1) / 2 = s.1 / 2 + 1 by omega]
                    · simp [upd, ptO, w4, w5, w6]
              · rw [wA_n (by decide), wA_n (by decide), wA_n (by decide), ptM_3]
              · rw [wA_n (by decide), wA_n (by decide), wA_n (by decide), ptM_4]
              · rw [wA_n q1, wA_n q1, wA_n q1, ptM_o q1 q3 q4]
      · refine jj_aload_n F dX5_takes_37 rfl ?_
        refine jj_geti F g28 (by assumption) (by rfl) dX5_takes_38 ?_
        rw [hr]
        refine jj_if_ne F (tgt := 56) dX5_takes_41 (by decide) (fun h41 => ?_) (fun h41 => ?_)
        · refine jj_iload_n F dX5_takes_56 rfl ?_
          refine jj_bipush F (v := nI 45) dX5_takes_57 (by decide) ?_
          refine jj_icmp_ne F (tgt := 102) dX5_takes_59 (by decide) (fun h59 => ?_) (fun h59 => ?_)
          · refine jj_iconst F (v := nI 0) dX5_takes_102 (by decide) ?_
            refine ret _ _ _ _ dX5_takes_103 (by first | rfl | exact nar_z (by first | exact Or.inl rfl | exact Or.inr rfl | exact b2i_01 _ | assumption)) ?_
            rw [tkC_f hnd ?_]
            · exact ⟨rfl, rfl⟩
            · rintro (⟨w1, w2⟩ | ⟨w1, w2, w3⟩)
              · first
                | exact h34 w1
                | (have := odd_n0 h41; omega)
              · first
                | exact h59 w1
                | (have := odd_0 h66; omega)
                | (rw [nI_add] at h77; exact absurd h77 (nI_ge (by omega) (by omega)))
          · refine jj_aload_n F dX5_takes_62 rfl ?_
            refine jj_geti F g28 (by assumption) (by rfl) dX5_takes_63 ?_
            rw [hr]
            refine jj_if_eq F (tgt := 102) dX5_takes_66 (by decide) (fun h66 => ?_) (fun h66 => ?_)
            · refine jj_iconst F (v := nI 0) dX5_takes_102 (by decide) ?_
              refine ret _ _ _ _ dX5_takes_103 (by first | rfl | exact nar_z (by first | exact Or.inl rfl | exact Or.inr rfl | exact b2i_01 _ | assumption)) ?_
              rw [tkC_f hnd ?_]
              · exact ⟨rfl, rfl⟩
              · rintro (⟨w1, w2⟩ | ⟨w1, w2, w3⟩)
                · first
                  | exact h34 w1
                  | (have := odd_n0 h41; omega)
                · first
                  | exact h59 w1
                  | (have := odd_0 h66; omega)
                  | (rw [nI_add] at h77; exact absurd h77 (nI_ge (by omega) (by omega)))
            · refine jj_aload_n F dX5_takes_69 rfl ?_
              refine jj_geti F g25 (by assumption) (by rfl) dX5_takes_70 ?_
              rw [hp]
              refine jj_iconst F (v := nI 1) dX5_takes_73 (by decide) ?_
              refine jj_iadd F dX5_takes_74 ?_
              refine jj_bipush F (v := nI 6) dX5_takes_75 (by decide) ?_
              refine jj_icmp_ge F (tgt := 102) dX5_takes_77 (by decide) (fun h77 => ?_) (fun h77 => ?_)
              · refine jj_iconst F (v := nI 0) dX5_takes_102 (by decide) ?_
                refine ret _ _ _ _ dX5_takes_103 (by first | rfl | exact nar_z (by first | exact Or.inl rfl | exact Or.inr rfl | exact b2i_01 _ | assumption)) ?_
                rw [tkC_f hnd ?_]
                · exact ⟨rfl, rfl⟩
                · rintro (⟨w1, w2⟩ | ⟨w1, w2, w3⟩)
                  · first
                    | exact h34 w1
                    | (have := odd_n0 h41; omega)
                  · first
                    | exact h59 w1
                    | (have := odd_0 h66; omega)
                    | (rw [nI_add] at h77; exact absurd h77 (nI_ge (by omega) (by omega)))
              · refine jj_aload_n F dX5_takes_80 rfl ?_
                refine jj_dup F dX5_takes_81 rfl ?_
                refine jj_geti F g25 (by assumption) (by rfl) dX5_takes_82 ?_
                rw [hp]
                refine jj_iconst F (v := nI 1) dX5_takes_85 (by decide) ?_
                refine jj_iadd F dX5_takes_86 ?_
                refine jj_puti F p25 (by assumption) (by rfl) dX5_takes_87 ?_
                refine jj_aload_n F dX5_takes_90 rfl ?_
                refine jj_iconst F (v := nI 0) dX5_takes_91 (by decide) ?_
                refine jj_putz F p28 (by assumption) (by rfl) (by first | exact Or.inl rfl | exact Or.inr rfl | assumption) dX5_takes_92 ?_
                refine jj_aload_n F dX5_takes_95 rfl ?_
                refine jj_iconst F (v := -1) dX5_takes_96 (by decide) ?_
                refine jj_puti F p32 (by assumption) (by rfl) dX5_takes_97 ?_
                refine jj_iconst F (v := nI 1) dX5_takes_100 (by decide) ?_
                refine ret _ _ _ _ dX5_takes_101 (by first | rfl | exact nar_z (by first | exact Or.inl rfl | exact Or.inr rfl | exact b2i_01 _ | assumption)) ?_
                have od := odd_n0 h66
                have k11 : s.1 < 11 := by rw [nI_add] at h77; rcases Nat.lt_or_ge (s.1 / 2 + 1) 6 with w | w; omega; exact absurd (nI_le w (by omega)) h77
                rw [tkC_y hnd hsn (Or.inr ⟨h59, od, k11⟩)]
                refine ⟨rfl, pt_is (fun b => ?_) ?_ ?_ (fun a q1 q3 q4 => ?_) rfl⟩
                · simp only [wA_s]
                  rw [ptM_1, nI_add]
                  by_cases w6 : b = 6
                  · subst w6; simp [upd, ptO, numI]
                  · by_cases w5 : b = 5
                    · subst w5; simp [upd, ptO, show (s.1 + 1) % 2 = 0 by omega, b2i]
                    · by_cases w4 : b = 4
                      · subst w4; simp [upd, ptO, show (s.1 + 1) / 2 = s.1 / 2 + 1 by omega]
                      · simp [upd, ptO, w4, w5, w6]
                · rw [wA_n (by decide), wA_n (by decide), wA_n (by decide), ptM_3]
                · rw [wA_n (by decide), wA_n (by decide), wA_n (by decide), ptM_4]
                · rw [wA_n q1, wA_n q1, wA_n q1, ptM_o q1 q3 q4]
        · refine jj_aload_n F dX5_takes_44 rfl ?_
          refine jj_iconst F (v := nI 1) dX5_takes_45 (by decide) ?_
          refine jj_putz F p28 (by assumption) (by rfl) (by first | exact Or.inl rfl | exact Or.inr rfl | assumption) dX5_takes_46 ?_
          refine jj_aload_n F dX5_takes_49 rfl ?_
          refine jj_iconst F (v := -1) dX5_takes_50 (by decide) ?_
          refine jj_puti F p32 (by assumption) (by rfl) dX5_takes_51 ?_
          refine jj_iconst F (v := nI 1) dX5_takes_54 (by decide) ?_
          refine ret _ _ _ _ dX5_takes_55 (by first | rfl | exact nar_z (by first | exact Or.inl rfl | exact Or.inr rfl | exact b2i_01 _ | assumption)) ?_
          have ev := odd_0 h41
          rw [tkC_y hnd hsn (Or.inl ⟨h34, ev⟩)]
          refine ⟨rfl, pt_is (fun b => ?_) ?_ ?_ (fun a q1 q3 q4 => ?_) rfl⟩
          · simp only [wA_s]
            rw [ptM_1]
            by_cases w6 : b = 6
            · subst w6; simp [upd, ptO, numI]
            · by_cases w5 : b = 5
              · subst w5; simp [upd, ptO, show (s.1 + 1) % 2 = 1 by omega, b2i]
              · by_cases w4 : b = 4
                · subst w4; simp [upd, ptO, show (s.1 + 1) / 2 = s.1 / 2 by omega]
                · simp [upd, ptO, w4, w5, w6]
          · rw [wA_n (by decide), wA_n (by decide), ptM_3]
          · rw [wA_n (by decide), wA_n (by decide), ptM_4]
          · rw [wA_n q1, wA_n q1, ptM_o q1 q3 q4]
    · refine jj_iconst F (v := nI 0) dX5_takes_29 (by decide) ?_
      refine ret _ _ _ _ dX5_takes_30 (by first | rfl | exact nar_z (by first | exact Or.inl rfl | exact Or.inr rfl | exact b2i_01 _ | assumption)) ?_
      rw [tkC_n hnd ((numI_m1 hok).mp h26)]
      exact ⟨rfl, rfl⟩
  · refine jj_iload_n F dX5_takes_6 rfl ?_
    refine jj_bipush F (v := nI 57) dX5_takes_7 (by decide) ?_
    refine jj_icmp_gt F (tgt := 21) dX5_takes_9 (by decide) (fun h9 => ?_) (fun h9 => ?_)
    · have hnd : ¬ (nI 48 ≤ c ∧ c ≤ nI 57) := by first | exact fun w => absurd h3 (i32_le_nlt w.1) | exact fun w => absurd h9 (i32_le_nlt w.2)
      refine jj_aload_n F dX5_takes_21 rfl ?_
      refine jj_geti F g32 (by assumption) (by rfl) dX5_takes_22 ?_
      rw [hn]
      refine jj_iconst F (v := -1) dX5_takes_25 (by decide) ?_
      refine jj_icmp_ne F (tgt := 31) dX5_takes_26 (by decide) (fun h26 => ?_) (fun h26 => ?_)
      · have hsn : ¬ s.2.1 = none := fun w => h26 ((numI_m1 hok).mpr w)
        refine jj_iload_n F dX5_takes_31 rfl ?_
        refine jj_bipush F (v := nI 44) dX5_takes_32 (by decide) ?_
        refine jj_icmp_ne F (tgt := 56) dX5_takes_34 (by decide) (fun h34 => ?_) (fun h34 => ?_)
        · refine jj_iload_n F dX5_takes_56 rfl ?_
          refine jj_bipush F (v := nI 45) dX5_takes_57 (by decide) ?_
          refine jj_icmp_ne F (tgt := 102) dX5_takes_59 (by decide) (fun h59 => ?_) (fun h59 => ?_)
          · refine jj_iconst F (v := nI 0) dX5_takes_102 (by decide) ?_
            refine ret _ _ _ _ dX5_takes_103 (by first | rfl | exact nar_z (by first | exact Or.inl rfl | exact Or.inr rfl | exact b2i_01 _ | assumption)) ?_
            rw [tkC_f hnd ?_]
            · exact ⟨rfl, rfl⟩
            · rintro (⟨w1, w2⟩ | ⟨w1, w2, w3⟩)
              · first
                | exact h34 w1
                | (have := odd_n0 h41; omega)
              · first
                | exact h59 w1
                | (have := odd_0 h66; omega)
                | (rw [nI_add] at h77; exact absurd h77 (nI_ge (by omega) (by omega)))
          · refine jj_aload_n F dX5_takes_62 rfl ?_
            refine jj_geti F g28 (by assumption) (by rfl) dX5_takes_63 ?_
            rw [hr]
            refine jj_if_eq F (tgt := 102) dX5_takes_66 (by decide) (fun h66 => ?_) (fun h66 => ?_)
            · refine jj_iconst F (v := nI 0) dX5_takes_102 (by decide) ?_
              refine ret _ _ _ _ dX5_takes_103 (by first | rfl | exact nar_z (by first | exact Or.inl rfl | exact Or.inr rfl | exact b2i_01 _ | assumption)) ?_
              rw [tkC_f hnd ?_]
              · exact ⟨rfl, rfl⟩
              · rintro (⟨w1, w2⟩ | ⟨w1, w2, w3⟩)
                · first
                  | exact h34 w1
                  | (have := odd_n0 h41; omega)
                · first
                  | exact h59 w1
                  | (have := odd_0 h66; omega)
                  | (rw [nI_add] at h77; exact absurd h77 (nI_ge (by omega) (by omega)))
            · refine jj_aload_n F dX5_takes_69 rfl ?_
              refine jj_geti F g25 (by assumption) (by rfl) dX5_takes_70 ?_
              rw [hp]
              refine jj_iconst F (v := nI 1) dX5_takes_73 (by decide) ?_
              refine jj_iadd F dX5_takes_74 ?_
              refine jj_bipush F (v := nI 6) dX5_takes_75 (by decide) ?_
              refine jj_icmp_ge F (tgt := 102) dX5_takes_77 (by decide) (fun h77 => ?_) (fun h77 => ?_)
              · refine jj_iconst F (v := nI 0) dX5_takes_102 (by decide) ?_
                refine ret _ _ _ _ dX5_takes_103 (by first | rfl | exact nar_z (by first | exact Or.inl rfl | exact Or.inr rfl | exact b2i_01 _ | assumption)) ?_
                rw [tkC_f hnd ?_]
                · exact ⟨rfl, rfl⟩
                · rintro (⟨w1, w2⟩ | ⟨w1, w2, w3⟩)
                  · first
                    | exact h34 w1
                    | (have := odd_n0 h41; omega)
                  · first
                    | exact h59 w1
                    | (have := odd_0 h66; omega)
                    | (rw [nI_add] at h77; exact absurd h77 (nI_ge (by omega) (by omega)))
              · refine jj_aload_n F dX5_takes_80 rfl ?_
                refine jj_dup F dX5_takes_81 rfl ?_
                refine jj_geti F g25 (by assumption) (by rfl) dX5_takes_82 ?_
                rw [hp]
                refine jj_iconst F (v := nI 1) dX5_takes_85 (by decide) ?_
                refine jj_iadd F dX5_takes_86 ?_
                refine jj_puti F p25 (by assumption) (by rfl) dX5_takes_87 ?_
                refine jj_aload_n F dX5_takes_90 rfl ?_
                refine jj_iconst F (v := nI 0) dX5_takes_91 (by decide) ?_
                refine jj_putz F p28 (by assumption) (by rfl) (by first | exact Or.inl rfl | exact Or.inr rfl | assumption) dX5_takes_92 ?_
                refine jj_aload_n F dX5_takes_95 rfl ?_
                refine jj_iconst F (v := -1) dX5_takes_96 (by decide) ?_
                refine jj_puti F p32 (by assumption) (by rfl) dX5_takes_97 ?_
                refine jj_iconst F (v := nI 1) dX5_takes_100 (by decide) ?_
                refine ret _ _ _ _ dX5_takes_101 (by first | rfl | exact nar_z (by first | exact Or.inl rfl | exact Or.inr rfl | exact b2i_01 _ | assumption)) ?_
                have od := odd_n0 h66
                have k11 : s.1 < 11 := by rw [nI_add] at h77; rcases Nat.lt_or_ge (s.1 / 2 + 1) 6 with w | w; omega; exact absurd (nI_le w (by omega)) h77
                rw [tkC_y hnd hsn (Or.inr ⟨h59, od, k11⟩)]
                refine ⟨rfl, pt_is (fun b => ?_) ?_ ?_ (fun a q1 q3 q4 => ?_) rfl⟩
                · simp only [wA_s]
                  rw [ptM_1, nI_add]
                  by_cases w6 : b = 6
                  · subst w6; simp [upd, ptO, numI]
                  · by_cases w5 : b = 5
                    · subst w5; simp [upd, ptO, show (s.1 + 1) % 2 = 0 by omega, b2i]
                    · by_cases w4 : b = 4
                      · subst w4; simp [upd, ptO, show (s.1 + 1) / 2 = s.1 / 2 + 1 by omega]
                      · simp [upd, ptO, w4, w5, w6]
                · rw [wA_n (by decide), wA_n (by decide), wA_n (by decide), ptM_3]
                · rw [wA_n (by decide), wA_n (by decide), wA_n (by decide), ptM_4]
                · rw [wA_n q1, wA_n q1, wA_n q1, ptM_o q1 q3 q4]
        · refine jj_aload_n F dX5_takes_37 rfl ?_
          refine jj_geti F g28 (by assumption) (by rfl) dX5_takes_38 ?_
          rw [hr]
          refine jj_if_ne F (tgt := 56) dX5_takes_41 (by decide) (fun h41 => ?_) (fun h41 => ?_)
          · refine jj_iload_n F dX5_takes_56 rfl ?_
            refine jj_bipush F (v := nI 45) dX5_takes_57 (by decide) ?_
            refine jj_icmp_ne F (tgt := 102) dX5_takes_59 (by decide) (fun h59 => ?_) (fun h59 => ?_)
            · refine jj_iconst F (v := nI 0) dX5_takes_102 (by decide) ?_
              refine ret _ _ _ _ dX5_takes_103 (by first | rfl | exact nar_z (by first | exact Or.inl rfl | exact Or.inr rfl | exact b2i_01 _ | assumption)) ?_
              rw [tkC_f hnd ?_]
              · exact ⟨rfl, rfl⟩
              · rintro (⟨w1, w2⟩ | ⟨w1, w2, w3⟩)
                · first
                  | exact h34 w1
                  | (have := odd_n0 h41; omega)
                · first
                  | exact h59 w1
                  | (have := odd_0 h66; omega)
                  | (rw [nI_add] at h77; exact absurd h77 (nI_ge (by omega) (by omega)))
            · refine jj_aload_n F dX5_takes_62 rfl ?_
              refine jj_geti F g28 (by assumption) (by rfl) dX5_takes_63 ?_
              rw [hr]
              refine jj_if_eq F (tgt := 102) dX5_takes_66 (by decide) (fun h66 => ?_) (fun h66 => ?_)
              · refine jj_iconst F (v := nI 0) dX5_takes_102 (by decide) ?_
                refine ret _ _ _ _ dX5_takes_103 (by first | rfl | exact nar_z (by first | exact Or.inl rfl | exact Or.inr rfl | exact b2i_01 _ | assumption)) ?_
                rw [tkC_f hnd ?_]
                · exact ⟨rfl, rfl⟩
                · rintro (⟨w1, w2⟩ | ⟨w1, w2, w3⟩)
                  · first
                    | exact h34 w1
                    | (have := odd_n0 h41; omega)
                  · first
                    | exact h59 w1
                    | (have := odd_0 h66; omega)
                    | (rw [nI_add] at h77; exact absurd h77 (nI_ge (by omega) (by omega)))
              · refine jj_aload_n F dX5_takes_69 rfl ?_
                refine jj_geti F g25 (by assumption) (by rfl) dX5_takes_70 ?_
                rw [hp]
                refine jj_iconst F (v := nI 1) dX5_takes_73 (by decide) ?_
                refine jj_iadd F dX5_takes_74 ?_
                refine jj_bipush F (v := nI 6) dX5_takes_75 (by decide) ?_
                refine jj_icmp_ge F (tgt := 102) dX5_takes_77 (by decide) (fun h77 => ?_) (fun h77 => ?_)
                · refine jj_iconst F (v := nI 0) dX5_takes_102 (by decide) ?_
                  refine ret _ _ _ _ dX5_takes_103 (by first | rfl | exact nar_z (by first | exact Or.inl rfl | exact Or.inr rfl | exact b2i_01 _ | assumption)) ?_
                  rw [tkC_f hnd ?_]
                  · exact ⟨rfl, rfl⟩
                  · rintro (⟨w1, w2⟩ | ⟨w1, w2, w3⟩)
                    · first
                      | exact h34 w1
                      | (have := odd_n0 h41; omega)
                    · first
                      | exact h59 w1
                      | (have := odd_0 h66; omega)
                      | (rw [nI_add] at h77; exact absurd h77 (nI_ge (by omega) (by omega)))
                · refine jj_aload_n F dX5_takes_80 rfl ?_
                  refine jj_dup F dX5_takes_81 rfl ?_
                  refine jj_geti F g25 (by assumption) (by rfl) dX5_takes_82 ?_
                  rw [hp]
                  refine jj_iconst F (v := nI 1) dX5_takes_85 (by decide) ?_
                  refine jj_iadd F dX5_takes_86 ?_
                  refine jj_puti F p25 (by assumption) (by rfl) dX5_takes_87 ?_
                  refine jj_aload_n F dX5_takes_90 rfl ?_
                  refine jj_iconst F (v := nI 0) dX5_takes_91 (by decide) ?_
                  refine jj_putz F p28 (by assumption) (by rfl) (by first | exact Or.inl rfl | exact Or.inr rfl | assumption) dX5_takes_92 ?_
                  refine jj_aload_n F dX5_takes_95 rfl ?_
                  refine jj_iconst F (v := -1) dX5_takes_96 (by decide) ?_
                  refine jj_puti F p32 (by assumption) (by rfl) dX5_takes_97 ?_
                  refine jj_iconst F (v := nI 1) dX5_takes_100 (by decide) ?_
                  refine ret _ _ _ _ dX5_takes_101 (by first | rfl | exact nar_z (by first | exact Or.inl rfl | exact Or.inr rfl | exact b2i_01 _ | assumption)) ?_
                  have od := odd_n0 h66
                  have k11 : s.1 < 11 := by rw [nI_add] at h77; rcases Nat.lt_or_ge (s.1 / 2 + 1) 6 with w | w; omega; exact absurd (nI_le w (by omega)) h77
                  rw [tkC_y hnd hsn (Or.inr ⟨h59, od, k11⟩)]
                  refine ⟨rfl, pt_is (fun b => ?_) ?_ ?_ (fun a q1 q3 q4 => ?_) rfl⟩
                  · simp only [wA_s]
                    rw [ptM_1, nI_add]
                    by_cases w6 : b = 6
                    · subst w6; simp [upd, ptO, numI]
                    · by_cases w5 : b = 5
                      · subst w5; simp [upd, ptO, show (s.1 + 1) % 2 = 0 by omega, b2i]
                      · by_cases w4 : b = 4
                        · subst w4; simp [upd, ptO, show (s.1 + 1) / 2 = s.1 / 2 + 1 by omega]
                        · simp [upd, ptO, w4, w5, w6]
                  · rw [wA_n (by decide), wA_n (by decide), wA_n (by decide), ptM_3]
                  · rw [wA_n (by decide), wA_n (by decide), wA_n (by decide), ptM_4]
                  · rw [wA_n q1, wA_n q1, wA_n q1, ptM_o q1 q3 q4]
          · refine jj_aload_n F dX5_takes_44 rfl ?_
            refine jj_iconst F (v := nI 1) dX5_takes_45 (by decide) ?_
            refine jj_putz F p28 (by assumption) (by rfl) (by first | exact Or.inl rfl | exact Or.inr rfl | assumption) dX5_takes_46 ?_
            refine jj_aload_n F dX5_takes_49 rfl ?_
            refine jj_iconst F (v := -1) dX5_takes_50 (by decide) ?_
            refine jj_puti F p32 (by assumption) (by rfl) dX5_takes_51 ?_
            refine jj_iconst F (v := nI 1) dX5_takes_54 (by decide) ?_
            refine ret _ _ _ _ dX5_takes_55 (by first | rfl | exact nar_z (by first | exact Or.inl rfl | exact Or.inr rfl | exact b2i_01 _ | assumption)) ?_
            have ev := odd_0 h41
            rw [tkC_y hnd hsn (Or.inl ⟨h34, ev⟩)]
            refine ⟨rfl, pt_is (fun b => ?_) ?_ ?_ (fun a q1 q3 q4 => ?_) rfl⟩
            · simp only [wA_s]
              rw [ptM_1]
              by_cases w6 : b = 6
              · subst w6; simp [upd, ptO, numI]
              · by_cases w5 : b = 5
                · subst w5; simp [upd, ptO, show (s.1 + 1) % 2 = 1 by omega, b2i]
                · by_cases w4 : b = 4
                  · subst w4; simp [upd, ptO, show (s.1 + 1) / 2 = s.1 / 2 by omega]
                  · simp [upd, ptO, w4, w5, w6]
            · rw [wA_n (by decide), wA_n (by decide), ptM_3]
            · rw [wA_n (by decide), wA_n (by decide), ptM_4]
            · rw [wA_n q1, wA_n q1, ptM_o q1 q3 q4]
      · refine jj_iconst F (v := nI 0) dX5_takes_29 (by decide) ?_
        refine ret _ _ _ _ dX5_takes_30 (by first | rfl | exact nar_z (by first | exact Or.inl rfl | exact Or.inr rfl | exact b2i_01 _ | assumption)) ?_
        rw [tkC_n hnd ((numI_m1 hok).mp h26)]
        exact ⟨rfl, rfl⟩
    · obtain ⟨d, hd, hcd, he⟩ := dig_ok ⟨i32_nlt h3, i32_nlt h9⟩
      have e9 : c - nI 48 = nI d := by rw [hcd, pk_sub (by omega), show 48 + d - 48 = d by omega]
      have hdd : nI 48 ≤ c ∧ c ≤ nI 57 := ⟨i32_nlt h3, i32_nlt h9⟩
      refine jj_aload_n F dX5_takes_12 rfl ?_
      refine jj_iload_n F dX5_takes_13 rfl ?_
      refine jj_bipush F (v := nI 48) dX5_takes_14 (by decide) ?_
      refine jj_isub F dX5_takes_16 ?_
      rw [e9]
      refine jj_callVi (na := 1) F (c_X5_takesDigit hd hok) (gl_V mk_X5_43 vw_X5_takesDigit) rfl rfl rfl (by decide +kernel) ⟨Nat.le_of_ble_eq_true rfl, Nat.le_of_ble_eq_true rfl⟩ (by assumption) rfl rfl rfl (Nat.le_of_ble_eq_true rfl) ⟨Nat.le_of_ble_eq_true rfl, Nat.le_of_ble_eq_true rfl⟩ dX5_takes_17 (fun r17 M17 hp17 => ?_)
      obtain ⟨rfl, rfl⟩ := symm2 hp17
      refine ret _ _ _ _ dX5_takes_20 (by first | rfl | exact nar_z (by first | exact Or.inl rfl | exact Or.inr rfl | exact b2i_01 _ | assumption)) ?_
      rw [tkC_d hdd he]
      exact ⟨rfl, rfl⟩
set_option maxRecDepth 100000 in
set_option maxHeartbeats 1000000 in
theorem c_X5_readToError {l : Launch} {E : Ee} {M : Mm} {len : Nat} {vals : Nat → Nat} (hlen : M.1 1 1 = nI len) (h40 : len ≤ 40) (hv3 : M.1 3 = fun j => nI (vals (2 * j))) (hv4 : M.1 4 = fun j => nI (vals (2 * j + 1))) (hvs : ∀ j, vals j < 16) : CtI l E yX5_readToError (.code yX5_readToError cX5_readToError 2 (some .int) :: gl) ({ frames := 2, cells := 0, slots := 0, locals := 42 } : Room) M [.ref (E.2.2 1)] 0 0 (fun r M2 => r = nI (rdF (M.1 2) len 0 (0, none, vals)).1 ∧ M2 = ptM M (rdF (M.1 2) len 0 (0, none, vals)).2) := by
  refine ctI_of (L0 := [some (.ref (E.2.2 1)), none]) (by decide) rfl (Nat.le_of_ble_eq_true rfl) rfl ?_
  intro Z hl hE hnl F ret
  subst hE
  have in_X5 : ∀ w ∈ u_ws RX5 TX5 7, w ∈ (.code yX5_readToError cX5_readToError 2 (some .int) :: gl) := fun w h => List.mem_cons_of_mem _ (lay_X5 w h)
  have g9 : FG Z 9 5 0 := fg_mk F (C := RX5) (T := TX5) (N := 7) in_X5 rfl (by decide) rfl (List.mem_cons_of_mem _ fk_X5_9)
  have g15 : FG Z 15 5 1 := fg_mk F (C := RX5) (T := TX5) (N := 7) in_X5 rfl (by decide) rfl (List.mem_cons_of_mem _ fk_X5_15)
  have p25 : FP Z 25 5 4 .int := fp_mk F (C := RX5) (T := TX5) (N := 7) in_X5 tyX5_ok nmX5 rfl (by decide) rfl (List.mem_cons_of_mem _ fk_X5_25) rfl (by decide +kernel)
  have p28 : FP Z 28 5 5 .boolean := fp_mk F (C := RX5) (T := TX5) (N := 7) in_X5 tyX5_ok nmX5 rfl (by decide) rfl (List.mem_cons_of_mem _ fk_X5_28) rfl (by decide +kernel)
  have p32 : FP Z 32 5 6 .int := fp_mk F (C := RX5) (T := TX5) (N := 7) in_X5 tyX5_ok nmX5 rfl (by decide) rfl (List.mem_cons_of_mem _ fk_X5_32) rfl (by decide +kernel)
  have kp := kd_PT
  have kc := kd_codes
  have kx := kd_cols
  have ky := kd_prows
  have lo : ∀ n i (s : Ps), n + i = len → pok s → rdF (M.1 2) len 0 (0, none, vals) = rdF (M.1 2) n i s → JJ Z (0, 0) (ptM M s) 17 [some (.ref ((zE Z).2.2 1)), some (.int (nI i))] [] := by
    intro n
    induction n with
    | zero =>
      intro i s hi hs hrd
      have hl1 : (ptM M s).1 1 1 = nI len := by rw [ptM_len]; exact hlen
      refine jj_iload_n F dX5_readToError_17 rfl ?_
      refine jj_aload_n F dX5_readToError_18 rfl ?_
      refine jj_geti F g15 (by assumption) (by rfl) dX5_readToError_19 ?_
      rw [hl1]
      refine jj_icmp_ge F (tgt := 46) dX5_readToError_22 (by decide) (fun _ => ?_) (fun h9 => absurd (nI_le (by omega) (by omega)) h9)
      refine jj_aload_n F dX5_readToError_46 rfl ?_
      refine jj_geti F g15 (by assumption) (by rfl) dX5_readToError_47 ?_
      rw [hl1]
      refine ret _ _ _ _ dX5_readToError_50 (by first | rfl | exact nar_z (by first | exact Or.inl rfl | exact Or.inr rfl | exact b2i_01 _ | assumption)) ?_
      rw [hrd]
      exact ⟨by rw [show len = i by omega]; rfl, rfl⟩
    | succ n ih =>
      intro i s hi hs hrd
      have hl1 : (ptM M s).1 1 1 = nI len := by rw [ptM_len]; exact hlen
      have hcd : (ptM M s).1 2 = M.1 2 := ptM_o (by decide) (by decide) (by decide)
      refine jj_iload_n F dX5_readToError_17 rfl ?_
      refine jj_aload_n F dX5_readToError_18 rfl ?_
      refine jj_geti F g15 (by assumption) (by rfl) dX5_readToError_19 ?_
      rw [hl1]
      refine jj_icmp_ge F (tgt := 46) dX5_readToError_22 (by decide) (fun h9 => absurd h9 (nI_ge (by omega) (by omega))) (fun _ => ?_)
      refine jj_aload_n F dX5_readToError_25 rfl ?_
      refine jj_aload_n F dX5_readToError_26 rfl ?_
      refine jj_getr F g9 (by assumption) (by rfl) dX5_readToError_27 ?_
      refine jj_iload_n F dX5_readToError_30 rfl ?_
      refine jj_iald F (by assumption) rfl (by omega) dX5_readToError_31 ?_
      rw [hcd]
      refine jj_callVi (na := 1) F (c_X5_takes hs) (gl_V mk_X5_35 vw_X5_takes) rfl rfl rfl (by decide +kernel) ⟨Nat.le_of_ble_eq_true rfl, Nat.le_of_ble_eq_true rfl⟩ (by assumption) rfl rfl rfl (Nat.le_of_ble_eq_true rfl) ⟨Nat.le_of_ble_eq_true rfl, Nat.le_of_ble_eq_true rfl⟩ dX5_readToError_32 (fun r32 M32 hp32 => ?_)
      obtain ⟨rfl, rfl⟩ := symm2 hp32
      refine jj_if_ne F (tgt := 40) dX5_readToError_35 (by decide) (fun h35 => ?_) (fun h35 => ?_)
      · refine jj_iinc F dX5_readToError_40 rfl (by first | exact iinc1 _ | rfl) (by rw [hnl]; decide) ?_
        dsimp only [lq_st, lq_clr, lq_no]
        refine jj_goto F (tgt := 17) dX5_readToError_43 (by decide) ?_
        refine ih (i + 1) _ (by omega) (pok_C hs) ?_
        rw [hrd]
        rw [b2i_n0] at h35
        rw [rdF_go h35]
      · refine jj_iload_n F dX5_readToError_38 rfl ?_
        refine ret _ _ _ _ dX5_readToError_39 (by first | rfl | exact nar_z (by first | exact Or.inl rfl | exact Or.inr rfl | exact b2i_01 _ | assumption)) ?_
        rw [hrd]
        rw [b2i_0] at h35
        rw [rdF_stop h35]
        exact ⟨rfl, rfl⟩
  refine jj_aload_n F dX5_readToError_0 rfl ?_
  refine jj_iconst F (v := nI 0) dX5_readToError_1 (by decide) ?_
  refine jj_puti F p25 (by assumption) (by rfl) dX5_readToError_2 ?_
  refine jj_aload_n F dX5_readToError_5 rfl ?_
  refine jj_iconst F (v := nI 0) dX5_readToError_6 (by decide) ?_
  refine jj_putz F p28 (by assumption) (by rfl) (by first | exact Or.inl rfl | exact Or.inr rfl | assumption) dX5_readToError_7 ?_
  refine jj_aload_n F dX5_readToError_10 rfl ?_
  refine jj_iconst F (v := -1) dX5_readToError_11 (by decide) ?_
  refine jj_puti F p32 (by assumption) (by rfl) dX5_readToError_12 ?_
  refine jj_iconst F (v := nI 0) dX5_readToError_15 (by decide) ?_
  refine jj_istore_n F dX5_readToError_16 (by rw [hnl]; decide) ?_
  dsimp only [lq_st, lq_clr, lq_no]
  refine jj_eqM ?_ (lo len 0 (0, none, vals) (by omega) (pok_0 hvs) rfl)
  refine pt_is (fun b => ?_) ?_ ?_ (fun a q1 q3 q4 => ?_) rfl
  · simp only [wA_s]
    by_cases w6 : b = 6
    · subst w6; simp [upd, ptO, numI]
    · by_cases w5 : b = 5
      · subst w5; simp [upd, ptO, b2i]
      · by_cases w4 : b = 4
        · subst w4; simp [upd, ptO]
        · simp [upd, ptO, w4, w5, w6]
  · rw [wA_n (by decide), wA_n (by decide), wA_n (by decide), hv3]
  · rw [wA_n (by decide), wA_n (by decide), wA_n (by decide), hv4]
  · rw [wA_n q1, wA_n q1, wA_n q1]
theorem rdF_le {cd : Nat → Int32} : ∀ {n i : Nat} {s : Ps}, (rdF cd n i s).1 ≤ i + n
  | 0, _, _ => Nat.le_refl _
  | n + 1, i, s => by
    unfold rdF
    split
    · have := rdF_le (cd := cd) (n := n) (i := i + 1) (s := (tkC (cd i) s).2)
      omega
    · show i ≤ _
      omega
def pthB (cd : Nat → Int32) (len : Nat) (vals : Nat → Nat) : Bool := decide ((rdF cd len 0 (0, none, vals)).1 = len) && ((rdF cd len 0 (0, none, vals)).2.1 % 2 == 1) && (rdF cd len 0 (0, none, vals)).2.2.1.isSome
set_option maxRecDepth 100000 in
set_option maxHeartbeats 1000000 in
theorem c_X5_isPath {l : Launch} {E : Ee} {M : Mm} {len : Nat} {vals : Nat → Nat} (hlen : M.1 1 1 = nI len) (h40 : len ≤ 40) (hv3 : M.1 3 = fun j => nI (vals (2 * j))) (hv4 : M.1 4 = fun j => nI (vals (2 * j + 1))) (hvs : ∀ j, vals j < 16) : CtI l E yX5_isPath (.code yX5_isPath cX5_isPath 1 (some .boolean) :: gl) ({ frames := 3, cells := 0, slots := 0, locals := 63 } : Room) M [.ref (E.2.2 1)] 0 0 (fun r M2 => r = b2i (pthB (M.1 2) len vals) ∧ M2 = ptM M (rdF (M.1 2) len 0 (0, none, vals)).2) := by
  refine ctI_of (L0 := [some (.ref (E.2.2 1))]) (by decide) rfl (Nat.le_of_ble_eq_true rfl) rfl ?_
  intro Z hl hE hnl F ret
  subst hE
  have in_X5 : ∀ w ∈ u_ws RX5 TX5 7, w ∈ (.code yX5_isPath cX5_isPath 1 (some .boolean) :: gl) := fun w h => List.mem_cons_of_mem _ (lay_X5 w h)
  have g15 : FG Z 15 5 1 := fg_mk F (C := RX5) (T := TX5) (N := 7) in_X5 rfl (by decide) rfl (List.mem_cons_of_mem _ fk_X5_15)
  have g28 : FG Z 28 5 5 := fg_mk F (C := RX5) (T := TX5) (N := 7) in_X5 rfl (by decide) rfl (List.mem_cons_of_mem _ fk_X5_28)
  have g32 : FG Z 32 5 6 := fg_mk F (C := RX5) (T := TX5) (N := 7) in_X5 rfl (by decide) rfl (List.mem_cons_of_mem _ fk_X5_32)
  have kp := kd_PT
  have kc := kd_codes
  have kx := kd_cols
  have ky := kd_prows
  have hok : pok (rdF (M.1 2) len 0 (0, none, vals)).2 := pok_rd (pok_0 hvs)
  have hle := rdF_le (cd := M.1 2) (n := len) (i := 0) (s := (0, none, vals))
  refine jj_aload_n F dX5_isPath_0 rfl ?_
  refine jj_callVi (na := 0) F (c_X5_readToError hlen h40 hv3 hv4 hvs) (gl_V mk_X5_39 vw_X5_readToError) rfl rfl rfl (by decide +kernel) ⟨Nat.le_of_ble_eq_true rfl, Nat.le_of_ble_eq_true rfl⟩ (by assumption) rfl rfl rfl (Nat.le_of_ble_eq_true rfl) ⟨Nat.le_of_ble_eq_true rfl, Nat.le_of_ble_eq_true rfl⟩ dX5_isPath_1 (fun r1 M1 hp1 => ?_)
  obtain ⟨rfl, rfl⟩ := symm2 hp1
  refine jj_aload_n F dX5_isPath_4 rfl ?_
  refine jj_geti F g15 (by assumption) (by rfl) dX5_isPath_5 ?_
  rw [ptM_len, hlen]
  refine jj_icmp_ne F (tgt := 30) dX5_isPath_8 (by decide) (fun h8 => ?_) (fun h8 => ?_)
  · refine jj_iconst F (v := nI 0) dX5_isPath_30 (by decide) ?_
    refine ret _ _ _ _ dX5_isPath_31 (nar_z (Or.inl rfl)) ⟨b2i_f ?_, rfl⟩
    unfold pthB
    first
    | (have e1 : ¬ (rdF (M.1 2) len 0 (0, none, vals)).1 = len := fun w => h8 (by rw [w]); simp [e1]; done)
    | (have e2 := odd_0 h15; simp [e2]; done)
    | (have e3 := (numI_m1 hok).mp h23; simp [e3]; done)
  · refine jj_aload_n F dX5_isPath_11 rfl ?_
    refine jj_geti F g28 (by assumption) (by rfl) dX5_isPath_12 ?_
    rw [ptM_inRow]
    refine jj_if_eq F (tgt := 30) dX5_isPath_15 (by decide) (fun h15 => ?_) (fun h15 => ?_)
    · refine jj_iconst F (v := nI 0) dX5_isPath_30 (by decide) ?_
      refine ret _ _ _ _ dX5_isPath_31 (nar_z (Or.inl rfl)) ⟨b2i_f ?_, rfl⟩
      unfold pthB
      first
      | (have e1 : ¬ (rdF (M.1 2) len 0 (0, none, vals)).1 = len := fun w => h8 (by rw [w]); simp [e1]; done)
      | (have e2 := odd_0 h15; simp [e2]; done)
      | (have e3 := (numI_m1 hok).mp h23; simp [e3]; done)
    · refine jj_aload_n F dX5_isPath_18 rfl ?_
      refine jj_geti F g32 (by assumption) (by rfl) dX5_isPath_19 ?_
      rw [ptM_num]
      refine jj_iconst F (v := -1) dX5_isPath_22 (by decide) ?_
      refine jj_icmp_eq F (tgt := 30) dX5_isPath_23 (by decide) (fun h23 => ?_) (fun h23 => ?_)
      · refine jj_iconst F (v := nI 0) dX5_isPath_30 (by decide) ?_
        refine ret _ _ _ _ dX5_isPath_31 (nar_z (Or.inl rfl)) ⟨b2i_f ?_, rfl⟩
        unfold pthB
        first
        | (have e1 : ¬ (rdF (M.1 2) len 0 (0, none, vals)).1 = len := fun w => h8 (by rw [w]); simp [e1]; done)
        | (have e2 := odd_0 h15; simp [e2]; done)
        | (have e3 := (numI_m1 hok).mp h23; simp [e3]; done)
      · refine jj_iconst F (v := nI 1) dX5_isPath_26 (by decide) ?_
        refine jj_goto F (tgt := 31) dX5_isPath_27 (by decide) ?_
        refine ret _ _ _ _ dX5_isPath_31 (nar_z (Or.inr rfl)) ⟨b2i_t ?_, rfl⟩
        have e1 := (nI_eq (by omega) (by omega)).mp h8
        have e2 := odd_n0 h15
        have e3 : ¬ (rdF (M.1 2) len 0 (0, none, vals)).2.2.1 = none := fun w => h23 ((numI_m1 hok).mpr w)
        unfold pthB
        cases hq : (rdF (M.1 2) len 0 (0, none, vals)).2.2.1 with
        | none => exact absurd hq e3
        | some v => simp [e1, e2]
def sgI (s : Bool) (v : Nat) : Int32 := if s then -(nI v) else nI v
def dst (a b : Nat) : Nat := if a < b then b - a else a - b
def rqV (v n : Nat) : Nat := if n = 0 then 0 else (2 * v + n) / (2 * n)
theorem rqV_le {k v n : Nat} (hk : k ≤ n) : rqV (k * v) n ≤ v := by
  unfold rqV
  split
  · omega
  · rename_i h
    have h1 : 2 * (k * v) + n ≤ 2 * (n * v) + n := by
      have := Nat.mul_le_mul_right v hk
      omega
    have h2 : (2 * (k * v) + n) / (2 * n) ≤ (2 * (n * v) + n) / (2 * n) := Nat.div_le_div_right h1
    have h3 : (2 * (n * v) + n) / (2 * n) = v := by
      rw [show 2 * (n * v) + n = n + 2 * n * v by rw [Nat.mul_assoc]; omega, Nat.add_mul_div_left _ _ (by omega), Nat.div_eq_of_lt (by omega)]
      omega
    omega
def lnP (a b k n : Nat) : Nat := if b < a then a - rqV (k * (a - b)) n else a + rqV (k * (b - a)) n
theorem nI_neg_toInt {v : Nat} (h : v < 2 ^ 31) : (-(nI v)).toInt = -(v : Int) := by
  have e := nI_toInt h
  rw [fb_negI (by rw [e]; omega), e]
theorem sgI_sub {a b : Nat} (ha : a < 16) (hb : b < 16) : nI b - nI a = sgI (decide (b < a)) (dst a b) := by
  unfold sgI dst
  by_cases h : b < a
  · simp only [h, decide_true, if_true, show ¬ a < b by omega, if_false]
    apply Int32.toInt_inj.mp
    rw [pk_sub_toInt (by omega) (by omega), nI_neg_toInt (by omega)]
    omega
  · simp only [h, decide_false, Bool.false_eq_true, if_false]
    rw [pk_sub (by omega)]
    by_cases q : a < b
    · simp [q]
    · have : a = b := by omega
      subst this
      simp
theorem sgI_abs {s : Bool} {v : Nat} (h : v < 2 ^ 31) : (if 0 ≤ sgI s v then sgI s v else 0 - sgI s v) = nI v := by
  unfold sgI
  cases s
  · simp only [Bool.false_eq_true, if_false]
    rw [if_pos (nI_pos' h)]
  · simp only [if_true]
    by_cases q : (0 : Int32) ≤ -(nI v)
    · rw [if_pos q]
      rw [Int32.le_iff_toInt_le, nI_neg_toInt h] at q
      have e0 : (0 : Int32).toInt = 0 := by decide
      have : v = 0 := by omega
      subst this
      decide
    · rw [if_neg q]
      apply Int32.toInt_inj.mp
      have e0 : (0 : Int32).toInt = 0 := by decide
      rw [fb_subI (by rw [e0, nI_neg_toInt h]; omega) (by rw [e0, nI_neg_toInt h]; omega), e0, nI_neg_toInt h, nI_toInt h]
      omega
theorem sgI_mul {s : Bool} {k v : Nat} (hk : k < 1000) (hv : v < 1000) : nI k * sgI s v = sgI s (k * v) := by
  unfold sgI
  cases s
  · simp only [Bool.false_eq_true, if_false]
    rw [pk_mul]
  · simp only [if_true]
    have hb : k * v < 1000000 := by
      have := Nat.mul_lt_mul'' hk hv
      omega
    have e1 := nI_toInt (n := k) (by omega)
    have e2 := nI_neg_toInt (v := v) (by omega)
    have e3 := nI_neg_toInt (v := k * v) (by omega)
    have e4 : (k : Int) * -(v : Int) = -((k * v : Nat) : Int) := by rw [Int.mul_neg, Int.natCast_mul]
    apply Int32.toInt_inj.mp
    rw [fb_mulI (by rw [e1, e2, e4]; omega) (by rw [e1, e2, e4]; omega), e1, e2, e3, e4]
theorem sgI_add {a b k n : Nat} (ha : a < 16) (hb : b < 16) (hk : k ≤ n) : nI a + sgI (decide (b < a)) (rqV (k * dst a b) n) = nI (lnP a b k n) := by
  unfold sgI lnP dst
  by_cases h : b < a
  · simp only [h, decide_true, if_true, show ¬ a < b by omega, if_false]
    have hq := rqV_le (v := a - b) hk
    have e1 := nI_toInt (n := a) (by omega)
    have e2 := nI_neg_toInt (v := rqV (k * (a - b)) n) (by omega)
    apply Int32.toInt_inj.mp
    rw [fb_addI (by rw [e1, e2]; omega) (by rw [e1, e2]; omega), e1, e2, nI_toInt (by omega)]
    omega
  · simp only [h, decide_false, Bool.false_eq_true, if_false]
    rw [nI_add]
    by_cases q : a < b
    · simp [q]
    · have : a = b := by omega
      subst this
      simp
theorem lnP_lt {a b k n : Nat} (ha : a < 16) (hb : b < 16) (hk : k ≤ n) : lnP a b k n < 16 := by
  unfold lnP
  split
  · omega
  · have := rqV_le (v := b - a) hk
    omega
theorem dst_lt {a b : Nat} (ha : a < 16) (hb : b < 16) : dst a b < 16 := by unfold dst; split <;> omega
def lnN (x1 y1 x2 y2 : Nat) : Nat := max (dst x1 x2) (dst y1 y2)
def lnC (x1 y1 x2 y2 k : Nat) : Nat := 16 * lnP y1 y2 k (lnN x1 y1 x2 y2) + lnP x1 x2 k (lnN x1 y1 x2 y2)
theorem sg_neg {s : Bool} {v q : Nat} (h : ¬ 0 ≤ sgI s v) (hv : v < 2 ^ 31) : -(nI q) = sgI s q := by
  cases s
  · exact absurd (nI_pos' hv) h
  · rfl
theorem sg_pos {s : Bool} {v n : Nat} (h : 0 ≤ sgI s v) (hv : v < 2 ^ 31) (hn : 0 < n) : nI (rqV v n) = sgI s (rqV v n) := by
  cases s
  · rfl
  · have h21 : (0 : Int32) ≤ -(nI v) := h
    rw [Int32.le_iff_toInt_le, nI_neg_toInt hv] at h21
    have e0 : (0 : Int32).toInt = 0 := by decide
    have w : v = 0 := by omega
    subst w
    have e1 : rqV 0 n = 0 := by
      unfold rqV
      rw [if_neg (by omega), Nat.div_eq_of_lt (by omega)]
    rw [e1]
    decide
theorem rq_val {v n : Nat} (hv : v < 1000000) (hn : 0 < n) (hn2 : n < 1000) : (nI 2 * nI v + nI n) / (nI 2 * nI n) = nI (rqV v n) := by
  rw [pk_mul, pk_mul, nI_add, pk_div (by omega) (by omega) (by omega)]
  unfold rqV
  rw [if_neg (by omega)]
set_option maxRecDepth 100000 in
set_option maxHeartbeats 1000000 in
theorem c_X5_roundedQuotient {l : Launch} {E : Ee} {M : Mm} {s : Bool} {v n : Nat} (hv : v < 1000000) (hn : n < 1000) : CtI l E yX5_roundedQuotient (.code yX5_roundedQuotient cX5_roundedQuotient 3 (some .int) :: gl) ({ frames := 1, cells := 0, slots := 0, locals := 21 } : Room) M [.int (sgI s v), .int (nI n)] 0 0 (fun r M2 => r = sgI s (rqV v n) ∧ M2 = M) := by
  refine ctI_of (L0 := [some (.int (sgI s v)), some (.int (nI n)), none]) (by decide) rfl (Nat.le_of_ble_eq_true rfl) rfl ?_
  intro Z hl hE hnl F ret
  subst hE
  refine jj_iload_n F dX5_roundedQuotient_0 rfl ?_
  refine jj_if_gt F (tgt := 6) dX5_roundedQuotient_1 (by decide) (fun h1 => ?_) (fun h1 => ?_)
  · have hn0 : 0 < n := by rcases Nat.eq_zero_or_pos n with w | w; (subst w; exact absurd h1 (by decide)); exact w
    refine jj_iconst F (v := nI 2) dX5_roundedQuotient_6 (by decide) ?_
    refine jj_iload_n F dX5_roundedQuotient_7 rfl ?_
    refine jj_mabs F mk_X5_59 (Nat.le_of_ble_eq_true rfl) (Nat.le_of_ble_eq_true rfl) (Nat.le_of_ble_eq_true rfl) (Nat.le_of_ble_eq_true rfl) dX5_roundedQuotient_8 ?_
    rw [sgI_abs (by omega)]
    refine jj_imul F dX5_roundedQuotient_11 ?_
    refine jj_iload_n F dX5_roundedQuotient_12 rfl ?_
    refine jj_iadd F dX5_roundedQuotient_13 ?_
    refine jj_iconst F (v := nI 2) dX5_roundedQuotient_14 (by decide) ?_
    refine jj_iload_n F dX5_roundedQuotient_15 rfl ?_
    refine jj_imul F dX5_roundedQuotient_16 ?_
    refine jj_idiv F dX5_roundedQuotient_17 (by rw [pk_mul]; exact nI_ne0 (by omega) (by omega)) ?_
    rw [rq_val (by omega) hn0 (by omega)]
    refine jj_istore_n F dX5_roundedQuotient_18 (by rw [hnl]; decide) ?_
    dsimp only [lq_st, lq_clr, lq_no]
    refine jj_iload_n F dX5_roundedQuotient_19 rfl ?_
    refine jj_if_ge F (tgt := 28) dX5_roundedQuotient_20 (by decide) (fun h20 => ?_) (fun h20 => ?_)
    · refine jj_iload_n F dX5_roundedQuotient_28 rfl ?_
      refine ret _ _ _ _ dX5_roundedQuotient_29 (by first | rfl | exact nar_z (by first | exact Or.inl rfl | exact Or.inr rfl | exact b2i_01 _ | assumption)) ?_
      refine ⟨?_, rfl⟩
      first
      | exact sg_pos h20 (by omega) hn0
      | exact sg_neg h20 (by omega)
    · refine jj_iload_n F dX5_roundedQuotient_23 rfl ?_
      refine jj_ineg F dX5_roundedQuotient_24 ?_
      refine jj_goto F (tgt := 29) dX5_roundedQuotient_25 (by decide) ?_
      refine ret _ _ _ _ dX5_roundedQuotient_29 (by first | rfl | exact nar_z (by first | exact Or.inl rfl | exact Or.inr rfl | exact b2i_01 _ | assumption)) ?_
      refine ⟨?_, rfl⟩
      first
      | exact sg_pos h20 (by omega) hn0
      | exact sg_neg h20 (by omega)
  · refine jj_iconst F (v := nI 0) dX5_roundedQuotient_4 (by decide) ?_
    refine ret _ _ _ _ dX5_roundedQuotient_5 (by first | rfl | exact nar_z (by first | exact Or.inl rfl | exact Or.inr rfl | exact b2i_01 _ | assumption)) ?_
    have w : n = 0 := by rcases Nat.eq_zero_or_pos n with w | w; exact w; exact absurd (nI_lt (a := 0) w (by omega)) h1
    subst w
    refine ⟨?_, rfl⟩
    have e : rqV v 0 = 0 := by unfold rqV; rw [if_pos rfl]
    rw [e]
    unfold sgI
    cases s <;> decide
theorem less8 (a b c d e f g h i j : Option Value) : ∀ (n : Nat) (v : Value), ([a, b, c, d, e, f, g, h, none, none] : List (Option Value))[n]? = some (some v) → ([a, b, c, d, e, f, g, h, i, j] : List (Option Value))[n]? = some (some v)
  | 0, _, h => h
  | 1, _, h => h
  | 2, _, h => h
  | 3, _, h => h
  | 4, _, h => h
  | 5, _, h => h
  | 6, _, h => h
  | 7, _, h => h
  | 8, _, h => by simp at h
  | 9, _, h => by simp at h
  | n + 10, _, h => by simp at h
set_option maxRecDepth 100000 in
set_option maxHeartbeats 1000000 in
theorem c_X5_drawLine {l : Launch} {E : Ee} {M : Mm} {f g c : Nat} {S : Nat → Bool} {cx cy : Nat → Nat} (hx : M.1 3 = fun j => nI (cx j)) (hy : M.1 4 = fun j => nI (cy j)) (hcx : ∀ j, cx j < 16) (hcy : ∀ j, cy j < 16) (hf : f < 6) (hg : g < 6) (hc : isCS c) (hS : M.1 (c + 1) = rowsOf S) : CtV l E yX5_drawLine (.code yX5_drawLine cX5_drawLine 10 none :: gl) ({ frames := 2, cells := 0, slots := 0, locals := 43 } : Room) M [.ref (E.2.2 1), .int (nI f), .int (nI g), .ref (E.2.2 c)] 0 0 (fun M2 => M2 = wA M (c + 1) (rowsOf (fun d => S d || exB (lnN (cx f) (cy f) (cx g) (cy g) + 1) (fun q => lnC (cx f) (cy f) (cx g) (cy g) q == d)))) := by
  refine ctV_of (L0 := [some (.ref (E.2.2 1)), some (.int (nI f)), some (.int (nI g)), some (.ref (E.2.2 c)), none, none, none, none, none, none]) (by decide) rfl (Nat.le_of_ble_eq_true rfl) rfl ?_
  intro Z hl hE hnl F ret
  subst hE
  have in_X5 : ∀ w ∈ u_ws RX5 TX5 7, w ∈ (.code yX5_drawLine cX5_drawLine 10 none :: gl) := fun w h => List.mem_cons_of_mem _ (lay_X5 w h)
  have g19 : FG Z 19 5 2 := fg_mk F (C := RX5) (T := TX5) (N := 7) in_X5 rfl (by decide) rfl (List.mem_cons_of_mem _ fk_X5_19)
  have g22 : FG Z 22 5 3 := fg_mk F (C := RX5) (T := TX5) (N := 7) in_X5 rfl (by decide) rfl (List.mem_cons_of_mem _ fk_X5_22)
  have kp := kd_PT
  have kc := kd_codes
  have kx := kd_cols
  have ky := kd_prows
  obtain ⟨h0, h1⟩ := id hc
  have hc3 : c + 1 ≠ 3 := by intro e; rw [e, kx] at h1; cases h1
  have hc4 : c + 1 ≠ 4 := by intro e; rw [e, ky] at h1; cases h1
  have b1 := hcx f
  have b2 := hcx g
  have b3 := hcy f
  have b4 := hcy g
  have d1 := dst_lt b1 b2
  have d2 := dst_lt b3 b4
  have hN : (lnN (cx f) (cy f) (cx g) (cy g)) < 16 := by unfold lnN; omega
  have lo : ∀ i, i ≤ (lnN (cx f) (cy f) (cx g) (cy g)) + 1 → JJ Z (0, 0) (wA M (c + 1) (rowsOf (fun d => S d || exB i (fun q => lnC (cx f) (cy f) (cx g) (cy g) q == d)))) 48 [some (.ref ((zE Z).2.2 1)), some (.int (nI f)), some (.int (nI g)), some (.ref ((zE Z).2.2 c)), some (.int (sgI (decide (cx g < cx f)) (dst (cx f) (cx g)))), some (.int (sgI (decide (cy g < cy f)) (dst (cy f) (cy g)))), some (.int (nI (lnN (cx f) (cy f) (cx g) (cy g)))), some (.int (nI i)), none, none] [] := by
    refine jj_loop ((lnN (cx f) (cy f) (cx g) (cy g)) + 1) ?_ ?_
    · refine jj_iload F dX5_drawLine_48 rfl ?_
      refine jj_iload F dX5_drawLine_50 rfl ?_
      refine jj_icmp_gt F (tgt := 111) dX5_drawLine_52 (by decide) (fun _ => ?_) (fun h9 => absurd (nI_lt (by omega) (by omega)) h9)
      exact ret _ _ _ dX5_drawLine_111 rfl
    · intro i hi ih
      have hin : i ≤ (lnN (cx f) (cy f) (cx g) (cy g)) := by omega
      have m1 : i * dst (cx f) (cx g) < 1000000 := by have := Nat.mul_lt_mul'' (show i < 1000 by omega) (show dst (cx f) (cx g) < 1000 by omega); omega
      have m2 : i * dst (cy f) (cy g) < 1000000 := by have := Nat.mul_lt_mul'' (show i < 1000 by omega) (show dst (cy f) (cy g) < 1000 by omega); omega
      have l1 := lnP_lt b1 b2 hin
      have l2 := lnP_lt b3 b4 hin
      have hSi : (wA M (c + 1) (rowsOf (fun d => S d || exB i (fun q => lnC (cx f) (cy f) (cx g) (cy g) q == d)))).1 (c + 1) = rowsOf (fun d => S d || exB i (fun q => lnC (cx f) (cy f) (cx g) (cy g) q == d)) := wA_s _ _ _
      have ex : ∀ j, (wA M (c + 1) (rowsOf (fun d => S d || exB i (fun q => lnC (cx f) (cy f) (cx g) (cy g) q == d)))).1 3 j = nI (cx j) := fun j => by rw [wA_n (Ne.symm hc3), hx]
      have ey : ∀ j, (wA M (c + 1) (rowsOf (fun d => S d || exB i (fun q => lnC (cx f) (cy f) (cx g) (cy g) q == d)))).1 4 j = nI (cy j) := fun j => by rw [wA_n (Ne.symm hc4), hy]
      refine jj_iload F dX5_drawLine_48 rfl ?_
      refine jj_iload F dX5_drawLine_50 rfl ?_
      refine jj_icmp_gt F (tgt := 111) dX5_drawLine_52 (by decide) (fun h9 => absurd h9 (nI_nlt (by omega) (by omega))) (fun _ => ?_)
      refine jj_aload_n F dX5_drawLine_55 rfl ?_
      refine jj_getr F g19 (by assumption) (by rfl) dX5_drawLine_56 ?_
      refine jj_iload_n F dX5_drawLine_59 rfl ?_
      refine jj_iald F (by assumption) rfl (by omega) dX5_drawLine_60 ?_
      rw [ex]
      refine jj_iload F dX5_drawLine_61 rfl ?_
      refine jj_iload F dX5_drawLine_63 rfl ?_
      refine jj_imul F dX5_drawLine_65 ?_
      rw [sgI_mul (by omega) (by omega)]
      refine jj_iload F dX5_drawLine_66 rfl ?_
      refine jj_callSi (na := 2) F (c_X5_roundedQuotient (by omega) (by omega)) (gl_S mk_X5_69 vw_X5_roundedQuotient) rfl rfl rfl (by decide +kernel) ⟨Nat.le_of_ble_eq_true rfl, Nat.le_of_ble_eq_true rfl⟩ rfl rfl (Nat.le_of_ble_eq_true rfl) ⟨Nat.le_of_ble_eq_true rfl, Nat.le_of_ble_eq_true rfl⟩ dX5_drawLine_68 (fun r68 M68 hp68 => ?_)
      obtain ⟨rfl, rfl⟩ := symm2 hp68
      refine jj_iadd F dX5_drawLine_71 ?_
      rw [sgI_add b1 b2 hin]
      refine jj_istore F dX5_drawLine_72 (by rw [hnl]; decide) ?_
      dsimp only [lq_st, lq_clr, lq_no]
      refine jj_aload_n F dX5_drawLine_74 rfl ?_
      refine jj_getr F g22 (by assumption) (by rfl) dX5_drawLine_75 ?_
      refine jj_iload_n F dX5_drawLine_78 rfl ?_
      refine jj_iald F (by assumption) rfl (by omega) dX5_drawLine_79 ?_
      rw [ey]
      refine jj_iload F dX5_drawLine_80 rfl ?_
      refine jj_iload F dX5_drawLine_82 rfl ?_
      refine jj_imul F dX5_drawLine_84 ?_
      rw [sgI_mul (by omega) (by omega)]
      refine jj_iload F dX5_drawLine_85 rfl ?_
      refine jj_callSi (na := 2) F (c_X5_roundedQuotient (by omega) (by omega)) (gl_S mk_X5_69 vw_X5_roundedQuotient) rfl rfl rfl (by decide +kernel) ⟨Nat.le_of_ble_eq_true rfl, Nat.le_of_ble_eq_true rfl⟩ rfl rfl (Nat.le_of_ble_eq_true rfl) ⟨Nat.le_of_ble_eq_true rfl, Nat.le_of_ble_eq_true rfl⟩ dX5_drawLine_87 (fun r87 M87 hp87 => ?_)
      obtain ⟨rfl, rfl⟩ := symm2 hp87
      refine jj_iadd F dX5_drawLine_90 ?_
      rw [sgI_add b3 b4 hin]
      refine jj_istore F dX5_drawLine_91 (by rw [hnl]; decide) ?_
      dsimp only [lq_st, lq_clr, lq_no]
      refine jj_aload_n F dX5_drawLine_93 rfl ?_
      refine jj_bipush F (v := nI 16) dX5_drawLine_94 (by decide) ?_
      refine jj_iload F dX5_drawLine_96 rfl ?_
      refine jj_imul F dX5_drawLine_98 ?_
      refine jj_iload F dX5_drawLine_99 rfl ?_
      refine jj_iadd F dX5_drawLine_101 ?_
      rw [pk_mul, nI_add]
      refine jj_callVv (na := 1) F (c_X0_include (by assumption) (by assumption) (by omega)) (gl_V mk_X5_51 vw_X0_include) rfl rfl rfl (by decide +kernel) ⟨Nat.le_of_ble_eq_true rfl, Nat.le_of_ble_eq_true rfl⟩ (by assumption) rfl rfl rfl (Nat.le_of_ble_eq_true rfl) ⟨Nat.le_of_ble_eq_true rfl, Nat.le_of_ble_eq_true rfl⟩ dX5_drawLine_102 (fun M102 hp102 => ?_)
      obtain rfl := hp102.symm
      rw [wA_wA]
      refine jj_iinc F dX5_drawLine_105 rfl (by first | exact iinc1 _ | rfl) (by rw [hnl]; decide) ?_
      dsimp only [lq_st, lq_clr, lq_no]
      refine jj_goto F (tgt := 48) dX5_drawLine_108 (by decide) ?_
      refine jj_less (L2 := [some (.ref ((zE Z).2.2 1)), some (.int (nI f)), some (.int (nI g)), some (.ref ((zE Z).2.2 c)), some (.int (sgI (decide (cx g < cx f)) (dst (cx f) (cx g)))), some (.int (sgI (decide (cy g < cy f)) (dst (cy f) (cy g)))), some (.int (nI (lnN (cx f) (cy f) (cx g) (cy g)))), some (.int (nI (i + 1))), none, none]) (less8 _ _ _ _ _ _ _ _ _ _) ?_
      refine jj_eqM (wA_rows (fun d => ?_)) ih
      simp only [exB, lnC]
      rw [Bool.or_assoc, beq_nat d]
  refine jj_aload_n F dX5_drawLine_0 rfl ?_
  refine jj_getr F g19 (by assumption) (by rfl) dX5_drawLine_1 ?_
  refine jj_iload_n F dX5_drawLine_4 rfl ?_
  refine jj_iald F (by assumption) rfl (by omega) dX5_drawLine_5 ?_
  rw [hx]
  refine jj_aload_n F dX5_drawLine_6 rfl ?_
  refine jj_getr F g19 (by assumption) (by rfl) dX5_drawLine_7 ?_
  refine jj_iload_n F dX5_drawLine_10 rfl ?_
  refine jj_iald F (by assumption) rfl (by omega) dX5_drawLine_11 ?_
  rw [hx]
  refine jj_isub F dX5_drawLine_12 ?_
  rw [sgI_sub b1 b2]
  refine jj_istore F dX5_drawLine_13 (by rw [hnl]; decide) ?_
  dsimp only [lq_st, lq_clr, lq_no]
  refine jj_aload_n F dX5_drawLine_15 rfl ?_
  refine jj_getr F g22 (by assumption) (by rfl) dX5_drawLine_16 ?_
  refine jj_iload_n F dX5_drawLine_19 rfl ?_
  refine jj_iald F (by assumption) rfl (by omega) dX5_drawLine_20 ?_
  rw [hy]
  refine jj_aload_n F dX5_drawLine_21 rfl ?_
  refine jj_getr F g22 (by assumption) (by rfl) dX5_drawLine_22 ?_
  refine jj_iload_n F dX5_drawLine_25 rfl ?_
  refine jj_iald F (by assumption) rfl (by omega) dX5_drawLine_26 ?_
  rw [hy]
  refine jj_isub F dX5_drawLine_27 ?_
  rw [sgI_sub b3 b4]
  refine jj_istore F dX5_drawLine_28 (by rw [hnl]; decide) ?_
  dsimp only [lq_st, lq_clr, lq_no]
  refine jj_iload F dX5_drawLine_30 rfl ?_
  refine jj_mabs F mk_X5_59 (Nat.le_of_ble_eq_true rfl) (Nat.le_of_ble_eq_true rfl) (Nat.le_of_ble_eq_true rfl) (Nat.le_of_ble_eq_true rfl) dX5_drawLine_32 ?_
  rw [sgI_abs (by omega)]
  refine jj_iload F dX5_drawLine_35 rfl ?_
  refine jj_mabs F mk_X5_59 (Nat.le_of_ble_eq_true rfl) (Nat.le_of_ble_eq_true rfl) (Nat.le_of_ble_eq_true rfl) (Nat.le_of_ble_eq_true rfl) dX5_drawLine_37 ?_
  rw [sgI_abs (by omega)]
  refine jj_mmax F mk_X5_65 (Nat.le_of_ble_eq_true rfl) (Nat.le_of_ble_eq_true rfl) (Nat.le_of_ble_eq_true rfl) (Nat.le_of_ble_eq_true rfl) (by omega) (by omega) dX5_drawLine_40 ?_
  refine jj_istore F dX5_drawLine_43 (by rw [hnl]; decide) ?_
  dsimp only [lq_st, lq_clr, lq_no]
  refine jj_iconst F (v := nI 0) dX5_drawLine_45 (by decide) ?_
  refine jj_istore F dX5_drawLine_46 (by rw [hnl]; decide) ?_
  dsimp only [lq_st, lq_clr, lq_no]
  rw [show max (dst (cx f) (cx g)) (dst (cy f) (cy g)) = (lnN (cx f) (cy f) (cx g) (cy g)) from rfl]
  refine jj_eqM ?_ (lo 0 (by omega))
  rw [show (fun d => S d || exB 0 (fun q => lnC (cx f) (cy f) (cx g) (cy g) q == d)) = S from funext (fun d => by simp [exB]), ← hS, wA_same]
/-- the cells of a path of p + 1 points -/
def drS (cx cy : Nat → Nat) : Nat → Nat → Bool
  | 0 => fun d => d == 16 * cy 0 + cx 0
  | p + 1 => fun d => drS cx cy p d || exB (lnN (cx p) (cy p) (cx (p + 1)) (cy (p + 1)) + 1) (fun q => lnC (cx p) (cy p) (cx (p + 1)) (cy (p + 1)) q == d)
theorem nI_pred1 (i : Nat) : nI (i + 1) - nI 1 = nI i := by rw [pk_sub (by omega), show i + 1 - 1 = i by omega]
set_option maxRecDepth 100000 in
set_option maxHeartbeats 1000000 in
theorem c_X5_drawInto {l : Launch} {E : Ee} {M : Mm} {p c : Nat} {cx cy : Nat → Nat} (hx : M.1 3 = fun j => nI (cx j)) (hy : M.1 4 = fun j => nI (cy j)) (hcx : ∀ j, cx j < 16) (hcy : ∀ j, cy j < 16) (hp : M.1 1 4 = nI p) (hp6 : p < 6) (hc : isCS c) : CtV l E yX5_drawInto (.code yX5_drawInto cX5_drawInto 3 none :: gl) ({ frames := 3, cells := 0, slots := 0, locals := 72 } : Room) M [.ref (E.2.2 1), .ref (E.2.2 c)] 0 0 (fun M2 => M2 = wA M (c + 1) (rowsOf (drS cx cy p))) := by
  refine ctV_of (L0 := [some (.ref (E.2.2 1)), some (.ref (E.2.2 c)), none]) (by decide) rfl (Nat.le_of_ble_eq_true rfl) rfl ?_
  intro Z hl hE hnl F ret
  subst hE
  have in_X5 : ∀ w ∈ u_ws RX5 TX5 7, w ∈ (.code yX5_drawInto cX5_drawInto 3 none :: gl) := fun w h => List.mem_cons_of_mem _ (lay_X5 w h)
  have g19 : FG Z 19 5 2 := fg_mk F (C := RX5) (T := TX5) (N := 7) in_X5 rfl (by decide) rfl (List.mem_cons_of_mem _ fk_X5_19)
  have g22 : FG Z 22 5 3 := fg_mk F (C := RX5) (T := TX5) (N := 7) in_X5 rfl (by decide) rfl (List.mem_cons_of_mem _ fk_X5_22)
  have g25 : FG Z 25 5 4 := fg_mk F (C := RX5) (T := TX5) (N := 7) in_X5 rfl (by decide) rfl (List.mem_cons_of_mem _ fk_X5_25)
  have kp := kd_PT
  have kc := kd_codes
  have kx := kd_cols
  have ky := kd_prows
  obtain ⟨h0, h1⟩ := id hc
  have hc3 : c + 1 ≠ 3 := by intro e; rw [e, kx] at h1; cases h1
  have hc4 : c + 1 ≠ 4 := by intro e; rw [e, ky] at h1; cases h1
  have hc1 : c + 1 ≠ 1 := by intro e; rw [e, kp] at h1; cases h1
  have b1 := hcx 0
  have b2 := hcy 0
  have lo : ∀ i, i ≤ p → JJ Z (0, 0) (wA M (c + 1) (rowsOf (drS cx cy i))) 26 [some (.ref ((zE Z).2.2 1)), some (.ref ((zE Z).2.2 c)), some (.int (nI (i + 1)))] [] := by
    refine jj_loop p ?_ ?_
    · have e4 : (wA M (c + 1) (rowsOf (drS cx cy p))).1 1 4 = nI p := by rw [wA_n (Ne.symm hc1), hp]
      refine jj_iload_n F dX5_drawInto_26 rfl ?_
      refine jj_aload_n F dX5_drawInto_27 rfl ?_
      refine jj_geti F g25 (by assumption) (by rfl) dX5_drawInto_28 ?_
      rw [e4]
      refine jj_icmp_gt F (tgt := 49) dX5_drawInto_31 (by decide) (fun _ => ?_) (fun h9 => absurd (nI_lt (by omega) (by omega)) h9)
      exact ret _ _ _ dX5_drawInto_49 rfl
    · intro i hi ih
      have e4 : (wA M (c + 1) (rowsOf (drS cx cy i))).1 1 4 = nI p := by rw [wA_n (Ne.symm hc1), hp]
      have ex : (wA M (c + 1) (rowsOf (drS cx cy i))).1 3 = fun j => nI (cx j) := by rw [wA_n (Ne.symm hc3), hx]
      have ey : (wA M (c + 1) (rowsOf (drS cx cy i))).1 4 = fun j => nI (cy j) := by rw [wA_n (Ne.symm hc4), hy]
      refine jj_iload_n F dX5_drawInto_26 rfl ?_
      refine jj_aload_n F dX5_drawInto_27 rfl ?_
      refine jj_geti F g25 (by assumption) (by rfl) dX5_drawInto_28 ?_
      rw [e4]
      refine jj_icmp_gt F (tgt := 49) dX5_drawInto_31 (by decide) (fun h9 => absurd h9 (nI_nlt (by omega) (by omega))) (fun _ => ?_)
      refine jj_aload_n F dX5_drawInto_34 rfl ?_
      refine jj_iload_n F dX5_drawInto_35 rfl ?_
      refine jj_iconst F (v := nI 1) dX5_drawInto_36 (by decide) ?_
      refine jj_isub F dX5_drawInto_37 ?_
      rw [nI_pred1 i]
      refine jj_iload_n F dX5_drawInto_38 rfl ?_
      refine jj_aload_n F dX5_drawInto_39 rfl ?_
      refine jj_callVv (na := 3) F (c_X5_drawLine (f := i) (g := i + 1) ex ey hcx hcy (by omega) (by omega) hc (wA_s _ _ _)) (gl_V mk_X5_55 vw_X5_drawLine) rfl rfl rfl (by decide +kernel) ⟨Nat.le_of_ble_eq_true rfl, Nat.le_of_ble_eq_true rfl⟩ (by assumption) rfl rfl rfl (Nat.le_of_ble_eq_true rfl) ⟨Nat.le_of_ble_eq_true rfl, Nat.le_of_ble_eq_true rfl⟩ dX5_drawInto_40 (fun M40 hp40 => ?_)
      obtain rfl := hp40.symm
      rw [wA_wA]
      refine jj_iinc F dX5_drawInto_43 rfl (by first | exact iinc1 _ | rfl) (by rw [hnl]; decide) ?_
      dsimp only [lq_st, lq_clr, lq_no]
      refine jj_goto F (tgt := 26) dX5_drawInto_46 (by decide) ?_
      exact ih
  refine jj_aload_n F dX5_drawInto_0 rfl ?_
  refine jj_callVv (na := 0) F (c_X0_becomeEmpty (by assumption)) (gl_V mk_X5_46 vw_X0_becomeEmpty) rfl rfl rfl (by decide +kernel) ⟨Nat.le_of_ble_eq_true rfl, Nat.le_of_ble_eq_true rfl⟩ (by assumption) rfl rfl rfl (Nat.le_of_ble_eq_true rfl) ⟨Nat.le_of_ble_eq_true rfl, Nat.le_of_ble_eq_true rfl⟩ dX5_drawInto_1 (fun M1 hp1 => ?_)
  obtain rfl := hp1.symm
  have hS0 : (wA M (c + 1) (rowsOf (fun _ => false))).1 (c + 1) = rowsOf (fun _ => false) := wA_s _ _ _
  refine jj_aload_n F dX5_drawInto_4 rfl ?_
  refine jj_bipush F (v := nI 16) dX5_drawInto_5 (by decide) ?_
  refine jj_aload_n F dX5_drawInto_7 rfl ?_
  refine jj_getr F g22 (by assumption) (by rfl) dX5_drawInto_8 ?_
  refine jj_iconst F (v := nI 0) dX5_drawInto_11 (by decide) ?_
  refine jj_iald F (by assumption) rfl (by omega) dX5_drawInto_12 ?_
  rw [wA_n (Ne.symm hc4), hy]
  refine jj_imul F dX5_drawInto_13 ?_
  refine jj_aload_n F dX5_drawInto_14 rfl ?_
  refine jj_getr F g19 (by assumption) (by rfl) dX5_drawInto_15 ?_
  refine jj_iconst F (v := nI 0) dX5_drawInto_18 (by decide) ?_
  refine jj_iald F (by assumption) rfl (by omega) dX5_drawInto_19 ?_
  rw [wA_n (Ne.symm hc3), hx]
  refine jj_iadd F dX5_drawInto_20 ?_
  rw [pk_mul, nI_add]
  refine jj_callVv (na := 1) F (c_X0_include (by assumption) (by assumption) (by omega)) (gl_V mk_X5_51 vw_X0_include) rfl rfl rfl (by decide +kernel) ⟨Nat.le_of_ble_eq_true rfl, Nat.le_of_ble_eq_true rfl⟩ (by assumption) rfl rfl rfl (Nat.le_of_ble_eq_true rfl) ⟨Nat.le_of_ble_eq_true rfl, Nat.le_of_ble_eq_true rfl⟩ dX5_drawInto_21 (fun M21 hp21 => ?_)
  obtain rfl := hp21.symm
  refine jj_iconst F (v := nI 1) dX5_drawInto_24 (by decide) ?_
  refine jj_istore_n F dX5_drawInto_25 (by rw [hnl]; decide) ?_
  dsimp only [lq_st, lq_clr, lq_no]
  refine jj_eqM ?_ (lo 0 (by omega))
  rw [wA_wA]
  refine wA_rows (fun d => ?_)
  simp [drS]
