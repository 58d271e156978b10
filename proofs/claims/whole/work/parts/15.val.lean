/-! what the questions answer -/
def colSA (a : Ab) (c : Nat) : Nat → Bool := fun d => decide (d < 256) && decide (colA (a_op a) (a_C a) (a_ac a) (a_n a) (nI (a_t a)) d = nI c)
abbrev tpA (a : Ab) : Nat → Int32 := topA (a_op a) (a_C a) (a_ac a) (a_n a) (nI (a_t a))
abbrev clA (a : Ab) : Nat → Int32 := colA (a_op a) (a_C a) (a_ac a) (a_n a) (nI (a_t a))
abbrev lsA (a : Ab) : Nat → Nat → Bool := LSa (a_op a) (a_C a) (a_ac a) (a_n a)
def clo (lk : List Lz) (u : Nat) (c : Nat) : Bool := lk.any (fun z => !decide (z.1 = u) && rect z.2.1 z.2.2.1 c)
def held (lk : List Lz) (c : Nat) : Bool := lk.any (fun z => rect z.2.1 z.2.2.1 c)
noncomputable def bpA (a : Ab) : Nat → Int32
  | 0 => nI (a_t a)
  | 1 => nI (a_n a)
  | 2 => nI (fb_ct (a_ac a) (a_n a))
  | 3 => nI (fb_ct (fun c => !decide (tpA a c = -1)) 256)
  | 4 => nI (fb_ct (fun j => !decide (nI (csz (colSA a (j + 1))) ≤ 0)) 9)
  | 5 => nI (a_lk a).length
  | 6 => nI (csz (held (a_lk a)))
  | 7 => nI (fb_ct (fun m => (a_mk a m).1) 6)
  | 8 => nI (fb_ct (fun j => decide (OF (tpA a) 256 j = 0) && !decide (nI (csz (lsA a j)) ≤ 0) && !vnA (a_op a) (nI (a_t a)) j) (a_n a))
  | _ => nI (fb_sm (fun c => npt (colSA a c) false 256) 10)
theorem ct_filter (p : Nat → Bool) : ∀ n, fb_ct p n = ((List.range n).filter p).length
  | 0 => rfl
  | n + 1 => by
    rw [fb_ct_succ, List.range_succ, List.filter_append, List.length_append, ← ct_filter p n]
    cases h : p n <;> simp [h]
theorem act_sum {n : Nat} {own : Nat → Nat} {act : Nat → Bool} (ho : ∀ j, j < n → own j < 5) : fb_sm (fun u => fb_ct (fun j => decide (own j = u) && act j) n) 5 = fb_ct act n := by
  induction n with
  | zero => rfl
  | succ n ih =>
    have ih := ih (fun j hj => ho j (by omega))
    have e : fb_sm (fun u => fb_ct (fun j => decide (own j = u) && act j) (n + 1)) 5 = fb_sm (fun u => fb_ct (fun j => decide (own j = u) && act j) n + (if (decide (own n = u) && act n) = true then 1 else 0)) 5 := fb_sm_cong (fun u _ => fb_ct_succ _ n)
    rw [e, fb_sm_add, ih, fb_ct_succ]
    congr 1
    have hn := ho n (by omega)
    cases hb : act n
    · simp [fb_sm]
    · rcases (show own n = 0 ∨ own n = 1 ∨ own n = 2 ∨ own n = 3 ∨ own n = 4 by omega) with q | q | q | q | q <;> simp [fb_sm, q]
theorem exB_any {α : Type} (f : Nat → α) (p : α → Bool) (q : Nat → Bool) : ∀ n, exB n (fun i => q i && p (f i)) = (((List.range n).filter q).map f).any p
  | 0 => rfl
  | n + 1 => by
    rw [List.range_succ, List.filter_append, List.map_append, List.any_append, ← exB_any f p q n]
    cases h : q n <;> simp [exB, h]
theorem perm_any {α : Type} {l m : List α} (h : l.Perm m) (p : α → Bool) : l.any p = m.any p := by
  rw [Bool.eq_iff_iff, List.any_eq_true, List.any_eq_true]
  exact ⟨fun ⟨x, hx, hp⟩ => ⟨x, h.mem_iff.mp hx, hp⟩, fun ⟨x, hx, hp⟩ => ⟨x, h.mem_iff.mpr hx, hp⟩⟩
theorem inF_eq {M : Mm} {t : Nat} {en : Nat → Nat} (ht : t < 2 ^ 31) {j : Nat} (h : M.1 190 j = nI (en j)) (he : en j < 200000) : inF M (nI t) j = decide (t < en j) := by
  unfold inF
  rw [h]
  by_cases q : t < en j
  · simp [q, nI_ge q (by omega)]
  · simp [q, nI_le (show en j ≤ t by omega) ht]
theorem exB_cong {p q : Nat → Bool} : ∀ {n : Nat}, (∀ i, i < n → p i = q i) → exB n p = exB n q
  | 0, _ => rfl
  | n + 1, h => by
    have a := exB_cong (p := p) (q := q) (n := n) (fun i hi => h i (by omega))
    have b := h n (by omega)
    simp [exB, a, b]
theorem csz_cong {S T : Nat → Bool} (h : ∀ c, c < 256 → S c = T c) : csz S = csz T := fb_ct_cong h
theorem cloF_eq {M : Mm} {t u : Nat} {own en fa la : Nat → Nat} {lk : List Lz} (ht : t < 2 ^ 31) (hu : u < 2 ^ 31) (h1 : ∀ j, j < 6 → M.1 189 j = nI (own j) ∧ M.1 190 j = nI (en j) ∧ own j < 5 ∧ en j < 200000 ∧ fa j < 257 ∧ la j < 257) (hp : (lzL own en fa la t).Perm lk) (c : Nat) : cloF M (fun j => rect (fa j) (la j)) (nI t) (nI u) 6 c = clo lk u c := by
  unfold clo
  rw [← perm_any hp]
  unfold lzL cloF
  rw [← exB_any (fun j => (own j, fa j, la j, en j)) (fun z => !decide (z.1 = u) && rect z.2.1 z.2.2.1 c) (fun j => decide (t < en j)) 6]
  refine exB_cong (fun j hj => ?_)
  obtain ⟨a, b, c1, d, e, f⟩ := h1 j hj
  rw [inF_eq ht b d, a]
  have : decide (nI (own j) = nI u) = decide (own j = u) := by
    rw [Bool.eq_iff_iff]
    simp only [decide_eq_true_eq]
    exact nI_eq (by omega) hu
  rw [this, Bool.and_assoc]
theorem cloF_m1 {M : Mm} {t : Nat} {own en fa la : Nat → Nat} {lk : List Lz} (ht : t < 2 ^ 31) (h1 : ∀ j, j < 6 → M.1 189 j = nI (own j) ∧ M.1 190 j = nI (en j) ∧ own j < 5 ∧ en j < 200000 ∧ fa j < 257 ∧ la j < 257) (hp : (lzL own en fa la t).Perm lk) (c : Nat) : cloF M (fun j => rect (fa j) (la j)) (nI t) (-1) 6 c = held lk c := by
  unfold held
  rw [← perm_any hp]
  unfold lzL cloF
  rw [← exB_any (fun j => (own j, fa j, la j, en j)) (fun z => rect z.2.1 z.2.2.1 c) (fun j => decide (t < en j)) 6]
  refine exB_cong (fun j hj => ?_)
  obtain ⟨a, b, c1, d, e, f⟩ := h1 j hj
  rw [inF_eq ht b d, a]
  have : decide (nI (own j) = -1) = false := decide_eq_false (nI_m1 (by omega))
  rw [this]
  simp
theorem cr_sum {M : Mm} {s0 : Rs} : ∀ i, (crA M s0 i).2 = fb_sm (fun c => npt (colS M c) false 256) i
  | 0 => rfl
  | i + 1 => by
    rw [crA_s]
    show (crA M s0 i).2 + _ = _
    rw [fb_sm_succ, ← cr_sum (s0 := s0) i, pt_spec]
    rfl
theorem RelR_459 {M : Mm} (h : RelR M) (S : Nat → Bool) : RelR (wA M 459 (rowsOf S)) := by
  obtain ⟨-, R, Q, q, h1, h2, h3, h4⟩ := h
  exact ⟨⟨S, wA_s _ _ _⟩, R, Q, q, by rw [wA_n (by decide)]; exact h1, by rw [wA_n (by decide)]; exact h2, by rw [wA_n (by decide)]; exact h3, h4⟩
theorem RelB_459 {M : Mm} {a : Ab} {W : Nat} (h : RelB M a W) (S : Nat → Bool) : RelB (wA M 459 (rowsOf S)) a W := RelB_ag h (fun x _ _ _ h4 => wA_n h4) (RelR_459 h.2.2.2.2.2.2 S) rfl
theorem RelB_reg {M : Mm} {a : Ab} {W : Nat} (h : RelB M a W) {s : Rs} (hs : rok s) : RelB (regM M s) a W := RelB_ag h (fun x h1 h2 h3 _ => regM_o h1 h2 h3) ⟨by obtain ⟨S, hS⟩ := h.2.2.2.2.2.2.1; exact ⟨S, by rw [regM_o (by decide) (by decide) (by decide)]; exact hS⟩, s.1, s.2.1, s.2.2, regM_456 M s, regM_457 M s, regM_454 M s, hs⟩ rfl
theorem RelB_cr {M : Mm} {a : Ab} {W : Nat} (h : RelB M a W) {s : Rs} (hs : rok s) (i : Nat) : RelB (crM M s (i + 1)) a W := by
  unfold crM
  rw [if_neg (Nat.succ_ne_zero i)]
  exact RelB_459 (RelB_reg h (rok_cr hs (i + 1))) _
theorem colS_A {M : Mm} {a : Ab} (h : M.1 207 = clA a) (c : Nat) : colS M c = colSA a c := by
  unfold colS colSA
  rw [h]
/-- the properties of an operation -/
noncomputable def opA (a : Ab) (k : Nat) : Nat → Int32
  | 0 => a_op a k 0
  | 1 => a_op a k 1
  | 2 => a_op a k 2
  | 3 => a_op a k 3
  | 4 => a_op a k 5
  | 5 => b2i (a_ac a k)
  | 6 => nI (csz (a_C a k))
  | 7 => nI (csz (lsA a k))
  | 8 => nI (npt (lsA a k) true 256)
  | 9 => OF (tpA a) 256 k
  | _ => strI (a_op a k 0) (a_op a k 4) (a_op a k 5) (nI (a_t a))
def coA (a : Ab) (u : Int32) : Nat → Int32
  | 0 => nI 0
  | i + 1 => if a_op a i 1 = u then coA a u i + OF (tpA a) 256 i else coA a u i
/-- the properties of a user -/
def usA (a : Ab) (u : Nat) : Nat → Int32
  | 0 => nI (fb_ct (fun j => decide (a_op a j 1 = nI u)) (a_n a))
  | 1 => nI (fb_ct (fun j => decide (a_op a j 1 = nI u) && a_ac a j) (a_n a))
  | 2 => nI (fb_ct (fun j => decide (a_op a j 1 = nI u) && decide (0 < a_un a j)) (a_n a))
  | 3 => coA a (nI u) (a_n a)
  | _ => nI ((a_lk a).filter (fun z => decide (z.1 = u))).length
theorem b2i_dec (b : Bool) : (!decide (b2i b = 0)) = b := by cases b <;> decide
theorem ct_perm {own en fa la : Nat → Nat} {t : Nat} {lk : List Lz} (hp : (lzL own en fa la t).Perm lk) (p : Lz → Bool) : fb_ct (fun j => decide (t < en j) && p (own j, fa j, la j, en j)) 6 = (lk.filter p).length := by
  rw [← (hp.filter p).length_eq, ct_filter]
  unfold lzL
  rw [List.filter_map, List.length_map, List.filter_filter]
  congr 1
  refine List.filter_congr (fun j _ => ?_)
  rw [Bool.and_comm]
  rfl
