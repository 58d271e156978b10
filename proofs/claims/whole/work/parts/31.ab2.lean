/-! the state behind a call -/
def addA (a : Ab) (f : Nat → Int32) (u : Nat) (S : Nat → Bool) (ln : Nat) : Ab := (a_n a + 1, a_t a, fun i => if i = a_n a then f else a_op a i, fun i => if i = a_n a then true else a_ac a i, fun i => if i = a_n a then S else a_C a i, fun i => if i = a_n a then 0 else if a_op a i 1 = nI u then 0 else a_un a i, a_lk a, a_mk a, ln, a_cd a, a_g a)
def opF (so u la co fa t : Nat) : Nat → Int32 := fun b => if b = 0 then nI so else if b = 1 then nI u else if b = 2 then nI la else if b = 3 then nI co else if b = 4 then nI fa else if b = 5 then nI t else nI 0
def clrA (a : Ab) : Ab := (0, 0, a_op a, a_ac a, a_C a, a_un a, [], fun m => (false, (a_mk a m).2), a_ln a, a_cd a, a_g a)
def pasA (a : Ab) (k : Nat) : Ab := (a_n a, a_t a + k, a_op a, a_ac a, a_C a, a_un a, (a_lk a).filter (fun z => decide (a_t a + k < z.2.2.2)), a_mk a, a_ln a, a_cd a, a_g a)
def appA (a : Ab) (x : Int32) : Ab := (a_n a, a_t a, a_op a, a_ac a, a_C a, a_un a, a_lk a, a_mk a, a_ln a + 1, fun i => if i = a_ln a then x else a_cd a i, a_g a)
def clbA (a : Ab) : Ab := (a_n a, a_t a, a_op a, a_ac a, a_C a, a_un a, a_lk a, a_mk a, 0, a_cd a, a_g a)
def unA (a : Ab) (k v : Nat) : Ab := (a_n a, a_t a, a_op a, fun i => if i = k then false else a_ac a i, a_C a, fun i => if i = k then v else a_un a i, a_lk a, a_mk a, a_ln a, a_cd a, a_g a)
def reA (a : Ab) (k : Nat) : Ab := (a_n a, a_t a, a_op a, fun i => if i = k then true else a_ac a i, a_C a, fun i => if i = k then 0 else a_un a i, a_lk a, a_mk a, a_ln a, a_cd a, a_g a)
def lkA (a : Ab) (l : List Lz) : Ab := (a_n a, a_t a, a_op a, a_ac a, a_C a, a_un a, l, a_mk a, a_ln a, a_cd a, a_g a)
def mkA (a : Ab) (m : Nat) : Ab := (a_n a, a_t a, a_op a, a_ac a, a_C a, a_un a, a_lk a, fun j => if j = m then (true, a_n a, a_ac a, a_t a) else a_mk a j, a_ln a, a_cd a, a_g a)
def rwA (a : Ab) (m : Nat) : Ab := ((a_mk a m).2.1, a_t a, a_op a, (a_mk a m).2.2.1, a_C a, fun _ => 0, a_lk a, fun j => ((a_mk a j).1 && decide ((a_mk a j).2.1 ≤ (a_mk a m).2.1), (a_mk a j).2), a_ln a, a_cd a, a_g a)
/-- the path that the text spells -/
def pvA (a : Ab) : Ps := (rdF (a_cd a) (a_ln a) 0 (0, none, fun _ => 0)).2
def okP (a : Ab) : Bool := pthB (a_cd a) (a_ln a) (fun _ => 0)
def dwA (a : Ab) : Nat → Bool := drS (fun j => (pvA a).2.2 (2 * j)) (fun j => (pvA a).2.2 (2 * j + 1)) ((pvA a).1 / 2)
noncomputable def fiA (a : Ab) (c : Nat) : Nat → Bool := fun d => @decide (Cmp (fun e => decide (e < 256) && decide (clA a e = clA a c)) false c d) (Classical.propDecidable _)
theorem fiA_t {a : Ab} {c d : Nat} : fiA a c d = true ↔ Cmp (fun e => decide (e < 256) && decide (clA a e = clA a c)) false c d := by
  unfold fiA
  rw [@decide_eq_true_iff _ (Classical.propDecidable _)]
/-- the text reads alike from any earlier row of numbers -/
def psE (s t : Ps) : Prop := s.1 = t.1 ∧ s.2.1 = t.2.1 ∧ (∀ j, j < s.1 → s.2.2 j = t.2.2 j) ∧ (¬ s.2.1 = none → s.2.2 s.1 = t.2.2 s.1)
theorem psE_D {d : Nat} {s t : Ps} (h : psE s t) : (tkD d s).1 = (tkD d t).1 ∧ psE (tkD d s).2 (tkD d t).2 := by
  obtain ⟨s1, s2, s3⟩ := s
  obtain ⟨t1, t2, t3⟩ := t
  obtain ⟨e1, e2, e3, e4⟩ := h
  dsimp only at e1 e2 e3 e4
  subst e1 e2
  unfold tkD
  dsimp only
  cases s2 with
  | none =>
    refine ⟨rfl, rfl, rfl, fun j hj => ?_, fun _ => ?_⟩
    · show (if j = s1 then d else s3 j) = (if j = s1 then d else t3 j)
      rw [if_neg (by have : j < s1 := hj; omega), if_neg (by have : j < s1 := hj; omega)]
      exact e3 j hj
    · show (if s1 = s1 then d else s3 s1) = (if s1 = s1 then d else t3 s1)
      rw [if_pos rfl, if_pos rfl]
  | some v =>
    dsimp only
    split
    · refine ⟨rfl, rfl, rfl, fun j hj => ?_, fun _ => ?_⟩
      · show (if j = s1 then 10 + d else s3 j) = (if j = s1 then 10 + d else t3 j)
        rw [if_neg (by have : j < s1 := hj; omega), if_neg (by have : j < s1 := hj; omega)]
        exact e3 j hj
      · show (if s1 = s1 then 10 + d else s3 s1) = (if s1 = s1 then 10 + d else t3 s1)
        rw [if_pos rfl, if_pos rfl]
    · exact ⟨rfl, rfl, rfl, e3, e4⟩
theorem psE_C {c : Int32} {s t : Ps} (h : psE s t) : (tkC c s).1 = (tkC c t).1 ∧ psE (tkC c s).2 (tkC c t).2 := by
  unfold tkC
  split
  · exact psE_D h
  · obtain ⟨s1, s2, s3⟩ := s
    obtain ⟨t1, t2, t3⟩ := t
    obtain ⟨e1, e2, e3, e4⟩ := h
    dsimp only at e1 e2 e3 e4
    subst e1 e2
    dsimp only
    cases s2 with
    | none => exact ⟨rfl, rfl, rfl, e3, e4⟩
    | some v =>
      dsimp only
      split
      · refine ⟨rfl, rfl, rfl, fun j hj => ?_, fun z => absurd rfl z⟩
        have : j < s1 + 1 := hj
        by_cases q : j = s1
        · subst q; exact e4 (by intro z; cases z)
        · exact e3 j (by omega)
      · exact ⟨rfl, rfl, rfl, e3, e4⟩
theorem psE_rd {cd ce : Nat → Int32} : ∀ {n i : Nat} {s t : Ps}, psE s t → (∀ j, i ≤ j → j < i + n → cd j = ce j) → (rdF cd n i s).1 = (rdF ce n i t).1 ∧ psE (rdF cd n i s).2 (rdF ce n i t).2
  | 0, _, _, _, h, _ => ⟨rfl, h⟩
  | n + 1, i, s, t, h, hc => by
    have e := hc i (by omega) (by omega)
    obtain ⟨a, b⟩ := psE_C (c := ce i) h
    cases q : (tkC (ce i) t).1 with
    | true =>
      rw [rdF_go (by rw [e, a]; exact q), rdF_go q, e]
      exact psE_rd b (fun j h1 h2 => hc j (by omega) (by omega))
    | false =>
      rw [rdF_stop (by rw [e, a]; exact q), rdF_stop q, e]
      exact ⟨rfl, b⟩
theorem psE_0 (v w : Nat → Nat) : psE (0, none, v) (0, none, w) := ⟨rfl, rfl, fun j hj => absurd hj (Nat.not_lt_zero j), fun h => absurd rfl h⟩
theorem drS_cong {cx cy dx dy : Nat → Nat} : ∀ {p : Nat}, (∀ j, j ≤ p → cx j = dx j ∧ cy j = dy j) → drS cx cy p = drS dx dy p
  | 0, h => by
    unfold drS
    rw [(h 0 (by omega)).1, (h 0 (by omega)).2]
  | p + 1, h => by
    have ih := drS_cong (cx := cx) (cy := cy) (dx := dx) (dy := dy) (p := p) (fun j hj => h j (by omega))
    unfold drS
    rw [ih, (h p (by omega)).1, (h p (by omega)).2, (h (p + 1) (by omega)).1, (h (p + 1) (by omega)).2]
/-- read anew: whether it is a path, and its cells -/
theorem rd_path {cd : Nat → Int32} {a : Ab} {v : Nat → Nat} (hc : ∀ j, j < a_ln a → cd j = a_cd a j) : (rdF cd (a_ln a) 0 (0, none, v)).1 = (rdF (a_cd a) (a_ln a) 0 (0, none, fun _ => 0)).1 ∧ pthB cd (a_ln a) v = okP a ∧ psE (rdF cd (a_ln a) 0 (0, none, v)).2 (pvA a) := by
  obtain ⟨e1, e2⟩ := psE_rd (cd := cd) (ce := a_cd a) (n := a_ln a) (i := 0) (psE_0 v (fun _ => 0)) (fun j _ h => hc j (by omega))
  refine ⟨e1, ?_, e2⟩
  unfold okP pthB
  rw [e1, e2.1, e2.2.1]
theorem rd_cells {a : Ab} {s : Ps} (h : psE s (pvA a)) (hp : okP a = true) : s.1 = 2 * ((pvA a).1 / 2) + 1 ∧ drS (fun j => s.2.2 (2 * j)) (fun j => s.2.2 (2 * j + 1)) (s.1 / 2) = dwA a := by
  unfold okP pthB at hp
  simp only [Bool.and_eq_true, beq_iff_eq, decide_eq_true_eq] at hp
  obtain ⟨⟨h1, h2⟩, h3⟩ := hp
  have h2 : (pvA a).1 % 2 = 1 := h2
  have h3 : (pvA a).2.1.isSome = true := h3
  have hs : s.1 = (pvA a).1 := h.1
  have hne : ¬ s.2.1 = none := fun z => by rw [← h.2.1, z] at h3; cases h3
  have all : ∀ j, j ≤ s.1 → s.2.2 j = (pvA a).2.2 j := fun j hj => by
    by_cases q : j = s.1
    · rw [q]; exact h.2.2.2 hne
    · exact h.2.2.1 j (by omega)
  refine ⟨by omega, ?_⟩
  unfold dwA
  rw [hs]
  exact drS_cong (fun j hj => ⟨all _ (by omega), all _ (by omega)⟩)
