/-! the cells by name -/
theorem kd_B : kd 0 = .inl (8, [3, 7, 189, 205, 206, 331, 456, 460, 0]) := rfl
theorem kd_PT : kd 1 = .inl (5, [4, 0, 5, 6, 0, 0, 0]) := rfl
theorem kd_codes : kd 2 = .inr (0, 40, 0, 0) := rfl
theorem kd_cols : kd 3 = .inr (0, 6, 0, 0) := rfl
theorem kd_prows : kd 4 = .inr (0, 6, 0, 0) := rfl
theorem kd_Log : kd 5 = .inl (2, [8, 0, 0]) := rfl
theorem kd_ents : kd 6 = .inr (5, 60, 7, 3) := rfl
theorem kd_Ls : kd 187 = .inl (1, [190, 191, 192]) := by decide +kernel
theorem kd_areas : kd 188 = .inr (3, 6, 191, 2) := by decide +kernel
theorem kd_owners : kd 189 = .inr (0, 6, 0, 0) := by decide +kernel
theorem kd_ends : kd 190 = .inr (0, 6, 0, 0) := by decide +kernel
theorem kd_marks : kd 203 = .inr (4, 6, 460, 3) := by decide +kernel
theorem kd_Reg : kd 454 = .inl (6, [457, 459, 0]) := by decide +kernel
theorem kd_queue : kd 457 = .inr (0, 256, 0, 0) := by decide +kernel
theorem kd_M : kd 478 = .inl (9, [0, 0, 0, 481, 482, 483, 484, 485, 486, 487, 488, 0, 489, 0, 490, 491, 492, 493, 494, 495, 496, 497, 0, 498, 499, 500, 501, 502, 0, 503, 504, 505, 1]) := by decide +kernel
theorem kd_op : ∀ i, i < 60 → kd (7 + 3 * i) = .inl (4, [0, 0, 0, 0, 0, 0, 0, 0, 7 + 3 * i + 3]) := by decide +kernel
theorem kd_mk0 : ∀ i, i < 6 → kd (460 + 3 * i) = .inl (3, [0, 0, 460 + 3 * i + 3, 460 + 3 * i + 4]) := by decide +kernel
theorem kd_mk1 : ∀ i, i < 6 → kd (460 + 3 * i + 1) = .inr (1, 60, 0, 0) := by decide +kernel
theorem kd_mk2 : ∀ i, i < 6 → kd (460 + 3 * i + 2) = .inr (0, 256, 0, 0) := by decide +kernel
theorem kd_o1 : ∀ i, i < 60 → kd (7 + 3 * i + 1) = .inl (0, [7 + 3 * i + 1 + 3]) := by decide +kernel
theorem kd_o2 : ∀ i, i < 60 → kd (7 + 3 * i + 1 + 1) = .inr (0, 16, 0, 0) := by decide +kernel
theorem cs_op (i : Nat) (hi : i < 60) : isCS (7 + 3 * i + 1) := ⟨kd_o1 i hi, kd_o2 i hi⟩
theorem kd_l1 : ∀ i, i < 6 → kd (191 + 2 * i) = .inl (0, [191 + 2 * i + 3]) := by decide +kernel
theorem kd_l2 : ∀ i, i < 6 → kd (191 + 2 * i + 1) = .inr (0, 16, 0, 0) := by decide +kernel
theorem cs_ls (i : Nat) (hi : i < 6) : isCS (191 + 2 * i) := ⟨kd_l1 i hi, kd_l2 i hi⟩
theorem kd_455 : kd 455 = .inl (0, [458]) := by decide +kernel
theorem kd_456 : kd 456 = .inr (0, 16, 0, 0) := by decide +kernel
theorem kd_458 : kd 458 = .inl (0, [461]) := by decide +kernel
theorem kd_459 : kd 459 = .inr (0, 16, 0, 0) := by decide +kernel
theorem cs_rest : isCS 455 := ⟨kd_455, kd_456⟩
theorem cs_scr : isCS 458 := ⟨kd_458, kd_459⟩
/-- a scene: cell b -/
def isSc (b : Nat) : Prop := b = 204 ∨ b = 329
theorem kd_sc0 {b : Nat} (h : isSc b) : kd b = .inl (7, [b + 3, b + 4, b + 5, b + 6]) := by
  rcases h with rfl | rfl <;> decide +kernel
theorem kd_sc1 {b : Nat} (h : isSc b) : kd (b + 1) = .inr (3, 60, b + 5, 2) := by
  rcases h with rfl | rfl <;> decide +kernel
theorem kd_sc2 {b : Nat} (h : isSc b) : kd (b + 2) = .inr (0, 256, 0, 0) := by
  rcases h with rfl | rfl <;> decide +kernel
theorem kd_sc3 {b : Nat} (h : isSc b) : kd (b + 3) = .inr (0, 256, 0, 0) := by
  rcases h with rfl | rfl <;> decide +kernel
theorem kd_sc4 {b : Nat} (h : isSc b) : kd (b + 4) = .inr (0, 60, 0, 0) := by
  rcases h with rfl | rfl <;> decide +kernel
theorem kd_s1a : ∀ i, i < 60 → kd (204 + 5 + 2 * i) = .inl (0, [204 + 5 + 2 * i + 3]) := by decide +kernel
theorem kd_s1b : ∀ i, i < 60 → kd (204 + 5 + 2 * i + 1) = .inr (0, 16, 0, 0) := by decide +kernel
theorem kd_s2a : ∀ i, i < 60 → kd (329 + 5 + 2 * i) = .inl (0, [329 + 5 + 2 * i + 3]) := by decide +kernel
theorem kd_s2b : ∀ i, i < 60 → kd (329 + 5 + 2 * i + 1) = .inr (0, 16, 0, 0) := by decide +kernel
theorem cs_sc {b : Nat} (hb : isSc b) (i : Nat) (hi : i < 60) : isCS (b + 5 + 2 * i) := by
  rcases hb with rfl | rfl
  · exact ⟨kd_s1a i hi, kd_s1b i hi⟩
  · exact ⟨kd_s2a i hi, kd_s2b i hi⟩
theorem fl_skip {α : Type} {i : Nat} {F g : Nat → α} (h : g i = F i) : fl i F g = fl (i + 1) F g := by
  funext y
  by_cases e : y = i
  · subst e
    simp [fl, h]
  · by_cases h2 : y < i
    · simp [fl, h2, show y < i + 1 by omega]
    · simp [fl, h2, show ¬ y < i + 1 by omega]
/-- the first place below n with p, n if there is none -/
def fst1 (p : Nat → Bool) : Nat → Nat
  | 0 => 0
  | n + 1 => if fst1 p n < n then fst1 p n else if p n then n else n + 1
theorem fst1_no {p : Nat → Bool} : ∀ {n : Nat}, (∀ j, j < n → p j = false) → fst1 p n = n
  | 0, _ => rfl
  | n + 1, h => by
    have a := fst1_no (p := p) (n := n) (fun j hj => h j (by omega))
    simp [fst1, a, h n (by omega)]
theorem fst1_yes {p : Nat → Bool} {i : Nat} (hp : p i = true) (h : ∀ j, j < i → p j = false) : ∀ {n : Nat}, i < n → fst1 p n = i
  | 0, hi => absurd hi (Nat.not_lt_zero i)
  | n + 1, hi => by
    rcases Nat.lt_or_ge i n with q | q
    · have a := fst1_yes hp h (n := n) q
      simp [fst1, a, q]
    · have e : i = n := by omega
      subst e
      have a := fst1_no (p := p) (n := i) h
      simp [fst1, a, hp]
theorem wA_1n {M : Mm} {k a j : Nat} {g : Nat → Int32} (h : a ≠ k) : (wA M k g).1 a j = M.1 a j := by rw [wA_n h]
theorem wA_1s {M : Mm} {k j : Nat} {g : Nat → Int32} : (wA M k g).1 k j = g j := by rw [wA_s]
