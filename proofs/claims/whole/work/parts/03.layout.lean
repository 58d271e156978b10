/-! the one memory: ints and longs of every cell, by the cell's number and the slot -/
abbrev Mm : Type := (Nat → Nat → Int32) × (Nat → Nat → Int64)
def wA (M : Mm) (k : Nat) (g : Nat → Int32) : Mm := (fun a => if a = k then g else M.1 a, M.2)
def wL (M : Mm) (k : Nat) (g : Nat → Int64) : Mm := (M.1, fun a => if a = k then g else M.2 a)
theorem wA_s (M : Mm) (k : Nat) (g : Nat → Int32) : (wA M k g).1 k = g := by simp [wA]
theorem wA_n {M : Mm} {k a : Nat} {g : Nat → Int32} (h : a ≠ k) : (wA M k g).1 a = M.1 a := by simp [wA, h]
theorem wA_2 (M : Mm) (k : Nat) (g : Nat → Int32) : (wA M k g).2 = M.2 := rfl
theorem wL_s (M : Mm) (k : Nat) (g : Nat → Int64) : (wL M k g).2 k = g := by simp [wL]
theorem wL_n {M : Mm} {k a : Nat} {g : Nat → Int64} (h : a ≠ k) : (wL M k g).2 a = M.2 a := by simp [wL, h]
theorem wL_1 (M : Mm) (k : Nat) (g : Nat → Int64) : (wL M k g).1 = M.1 := rfl
theorem wA_same (M : Mm) (k : Nat) : wA M k (M.1 k) = M := by
  refine Prod.ext ?_ rfl
  funext a
  by_cases h : a = k
  · subst h; simp [wA]
  · simp [wA, h]
theorem wL_same (M : Mm) (k : Nat) : wL M k (M.2 k) = M := by
  refine Prod.ext rfl ?_
  funext a
  by_cases h : a = k
  · subst h; simp [wL]
  · simp [wL, h]
theorem wA_wA (M : Mm) (k : Nat) (g g2 : Nat → Int32) : wA (wA M k g) k g2 = wA M k g2 := by
  refine Prod.ext ?_ rfl
  funext a
  by_cases h : a = k <;> simp [wA, h]
theorem wL_wL (M : Mm) (k : Nat) (g g2 : Nat → Int64) : wL (wL M k g) k g2 = wL M k g2 := by
  refine Prod.ext rfl ?_
  funext a
  by_cases h : a = k <;> simp [wL, h]
/-! the layout: cell k is an object (class, a code a field: 0 an int, 1 a long, r + 2 the cell r) or an array (kind, length, first cell, stride) -/
abbrev Kd : Type := (Nat × List Nat) ⊕ (Nat × Nat × Nat × Nat)

def kdM : List Kd := [.inl (9, [0, 0, 0, 481, 482, 483, 484, 485, 486, 487, 488, 0, 489, 0, 490, 491, 492, 493, 494, 495, 496, 497, 0, 498, 499, 500, 501, 502, 0, 503, 504, 505, 1]), .inr (0, 60, 0, 0), .inr (0, 60, 0, 0), .inr (0, 60, 0, 0), .inr (0, 60, 0, 0), .inr (0, 60, 0, 0), .inr (0, 60, 0, 0), .inr (1, 60, 0, 0), .inr (0, 60, 0, 0), .inr (2, 240, 0, 0), .inr (0, 6, 0, 0), .inr (0, 6, 0, 0), .inr (0, 6, 0, 0), .inr (0, 6, 0, 0), .inr (0, 6, 0, 0), .inr (0, 6, 0, 0), .inr (2, 6, 0, 0), .inr (1, 6, 0, 0), .inr (0, 40, 0, 0), .inr (2, 240, 0, 0), .inr (1, 60, 0, 0), .inr (0, 256, 0, 0), .inr (0, 256, 0, 0), .inr (0, 12, 0, 0), .inr (2, 4, 0, 0), .inr (1, 256, 0, 0), .inr (2, 1, 0, 0)]
def kdCS (k : Nat) : Kd := .inl (0, [k + 3])
def kdRow : Kd := .inr (0, 16, 0, 0)
def kdScene (b i : Nat) : Kd := match i with
  | 0 => .inl (7, [b + 3, b + 4, b + 5, b + 6])
  | 1 => .inr (3, 60, b + 5, 2)
  | 2 => .inr (0, 256, 0, 0)
  | 3 => .inr (0, 256, 0, 0)
  | 4 => .inr (0, 60, 0, 0)
  | n + 5 => if n % 2 = 0 then kdCS (b + 5 + n) else kdRow
def kd (k : Nat) : Kd :=
  if k < 7 then (match k with
    | 0 => .inl (8, [3, 7, 189, 205, 206, 331, 456, 460, 0])
    | 1 => .inl (5, [4, 0, 5, 6, 0, 0, 0])
    | 2 => .inr (0, 40, 0, 0)
    | 3 => .inr (0, 6, 0, 0)
    | 4 => .inr (0, 6, 0, 0)
    | 5 => .inl (2, [8, 0, 0])
    | _ => .inr (5, 60, 7, 3))
  else if k < 187 then (if (k - 7) % 3 = 0 then .inl (4, [0, 0, 0, 0, 0, 0, 0, 0, k + 3]) else if (k - 7) % 3 = 1 then kdCS k else kdRow)
  else if k < 191 then (match k - 187 with
    | 0 => .inl (1, [190, 191, 192])
    | 1 => .inr (3, 6, 191, 2)
    | _ => .inr (0, 6, 0, 0))
  else if k < 203 then (if (k - 191) % 2 = 0 then kdCS k else kdRow)
  else if k = 203 then .inr (4, 6, 460, 3)
  else if k < 329 then kdScene 204 (k - 204)
  else if k < 454 then kdScene 329 (k - 329)
  else if k < 460 then (match k - 454 with
    | 0 => .inl (6, [457, 459, 0])
    | 1 => kdCS 455
    | 2 => kdRow
    | 3 => .inr (0, 256, 0, 0)
    | 4 => kdCS 458
    | _ => kdRow)
  else if k < 478 then (if (k - 460) % 3 = 0 then .inl (3, [0, 0, k + 3, k + 4]) else if (k - 460) % 3 = 1 then .inr (1, 60, 0, 0) else .inr (0, 256, 0, 0))
  else kdM.getD (k - 478) (.inr (0, 0, 0, 0))
/-- the tables' numbers, the array classes, the cells' addresses -/
abbrev Ee : Type := va_G × (ClassId × ClassId × ClassId × (Nat → ClassId)) × (Nat → Nat)
def lf (E : Ee) (M : Mm) (k : Nat) : Nat → List Nat → List Value
  | _, [] => []
  | j, 0 :: t => .int (M.1 k j) :: lf E M k (j + 1) t
  | j, 1 :: t => .long (M.2 k j) :: lf E M k (j + 1) t
  | j, (r + 2) :: t => .ref (E.2.2 r) :: lf E M k (j + 1) t
def lcK (E : Ee) (M : Mm) (k : Nat) : Kd → va_E
  | .inl (ci, fl) => .inr (ci, lf E M k 0 fl)
  | .inr (0, n, _, _) => .inl (E.2.1.1, n, .inl (M.1 k))
  | .inr (1, n, _, _) => .inl (E.2.1.2.1, n, .inl (M.1 k))
  | .inr (2, n, _, _) => .inl (E.2.1.2.2.1, n, .inr (.inl (M.2 k)))
  | .inr (t + 3, n, b, d) => .inl (E.2.1.2.2.2 t, n, .inr (.inr (.inr (.inr (fun i => some (E.2.2 (b + d * i)))))))
def lc (E : Ee) (M : Mm) (k : Nat) : va_E := lcK E M k (kd k)
def lw (E : Ee) (M : Mm) : va_W := (List.range 505).map (fun k => (E.2.2 k, lc E M k))
def ltys (E : Ee) : List (ClassId × FieldType) := [(E.2.1.1, .int), (E.2.1.2.1, .boolean), (E.2.1.2.2.1, .long), (E.2.1.2.2.2 0, .object RX0), (E.2.1.2.2.2 1, .object RX3), (E.2.1.2.2.2 2, .object RX4)]
theorem lw_get (E : Ee) (M : Mm) {k : Nat} (h : k < 505) : (lw E M)[k]? = some (E.2.2 k, lc E M k) := by
  simp [lw, h]
theorem lw_len (E : Ee) (M : Mm) : (lw E M).length = 505 := by simp [lw]
theorem lf_cong (E : Ee) {M M2 : Mm} {k : Nat} (h1 : M.1 k = M2.1 k) (h2 : M.2 k = M2.2 k) : ∀ (fl : List Nat) (j : Nat), lf E M k j fl = lf E M2 k j fl
  | [], _ => rfl
  | 0 :: t, j => by simp only [lf]; rw [lf_cong E h1 h2 t, h1]
  | 1 :: t, j => by simp only [lf]; rw [lf_cong E h1 h2 t, h2]
  | (r + 2) :: t, j => by simp only [lf]; rw [lf_cong E h1 h2 t]
theorem lc_cong (E : Ee) {M M2 : Mm} {k : Nat} (h1 : M.1 k = M2.1 k) (h2 : M.2 k = M2.2 k) : lc E M k = lc E M2 k := by
  unfold lc
  generalize kd k = q
  match q with
  | .inl (ci, fl) => simp only [lcK]; rw [lf_cong E h1 h2]
  | .inr (0, n, _, _) => simp only [lcK]; rw [h1]
  | .inr (1, n, _, _) => simp only [lcK]; rw [h1]
  | .inr (2, n, _, _) => simp only [lcK]; rw [h2]
  | .inr (t + 3, n, b, d) => simp only [lcK]
theorem lw_set (E : Ee) {M M2 : Mm} {k : Nat} {e : va_E} (he : lc E M2 k = e) (ho : ∀ j, j ≠ k → lc E M2 j = lc E M j) : (lw E M).set k (E.2.2 k, e) = lw E M2 := by
  apply List.ext_getElem?
  intro i
  by_cases hi : i < 505
  · rw [lw_get E M2 hi]
    by_cases hk : i = k
    · subst hk
      rw [List.getElem?_set_self (by rw [lw_len]; exact hi), he]
    · rw [List.getElem?_set_ne (fun h => hk h.symm), lw_get E M hi, ho i hk]
  · rw [List.getElem?_eq_none (by rw [List.length_set, lw_len]; omega), List.getElem?_eq_none (by rw [lw_len]; omega)]
theorem lw_wA (E : Ee) (M : Mm) {k : Nat} {g : Nat → Int32} {e : va_E} (he : lc E (wA M k g) k = e) : (lw E M).set k (E.2.2 k, e) = lw E (wA M k g) := lw_set E he (fun j hj => lc_cong E (wA_n hj) rfl)
theorem lw_wL (E : Ee) (M : Mm) {k : Nat} {g : Nat → Int64} {e : va_E} (he : lc E (wL M k g) k = e) : (lw E M).set k (E.2.2 k, e) = lw E (wL M k g) := lw_set E he (fun j hj => lc_cong E rfl (wL_n hj))
theorem lf_get (E : Ee) (M : Mm) (k : Nat) : ∀ (fl : List Nat) (i j c : Nat), fl[j]? = some c → (lf E M k i fl)[j]? = some (match c with
    | 0 => .int (M.1 k (i + j))
    | 1 => .long (M.2 k (i + j))
    | r + 2 => .ref (E.2.2 r))
  | [], _, _, _, h => by simp at h
  | a :: t, i, 0, c, h => by
    simp at h
    subst h
    match a with
    | 0 => rfl
    | 1 => rfl
    | r + 2 => rfl
  | a :: t, i, j + 1, c, h => by
    have h2 : t[j]? = some c := by simpa using h
    have ih := lf_get E M k t (i + 1) j c h2
    have e : i + 1 + j = i + (j + 1) := by omega
    rw [e] at ih
    match a with
    | 0 => simpa [lf] using ih
    | 1 => simpa [lf] using ih
    | r + 2 => simpa [lf] using ih
theorem lf_len (E : Ee) (M : Mm) (k : Nat) : ∀ (fl : List Nat) (i : Nat), (lf E M k i fl).length = fl.length
  | [], _ => rfl
  | 0 :: t, i => by simp [lf, lf_len E M k t]
  | 1 :: t, i => by simp [lf, lf_len E M k t]
  | (r + 2) :: t, i => by simp [lf, lf_len E M k t]
theorem lf_setI_out (E : Ee) (M : Mm) (k : Nat) (v : Int32) : ∀ (fl : List Nat) (i j : Nat), j < i → lf E M k i fl = lf E (wA M k (upd (M.1 k) j v)) k i fl
  | [], _, _, _ => rfl
  | 0 :: t, i, j, h => by simp only [lf]; rw [← lf_setI_out E M k v t (i + 1) j (by omega), wA_s]; simp [upd, show ¬ i = j by omega]
  | 1 :: t, i, j, h => by simp only [lf]; rw [← lf_setI_out E M k v t (i + 1) j (by omega), wA_2]
  | (r + 2) :: t, i, j, h => by simp only [lf]; rw [← lf_setI_out E M k v t (i + 1) j (by omega)]
theorem lf_setI (E : Ee) (M : Mm) (k : Nat) (v : Int32) : ∀ (fl : List Nat) (i j : Nat), fl[j]? = some 0 → (lf E M k i fl).set j (.int v) = lf E (wA M k (upd (M.1 k) (i + j) v)) k i fl
  | [], _, _, h => by simp at h
  | a :: t, i, 0, h => by
    simp at h
    subst h
    have e : lf E M k (i + 1) t = lf E (wA M k (upd (M.1 k) (i + 0) v)) k (i + 1) t := by
      exact lf_setI_out E M k v t (i + 1) (i + 0) (by omega)
    simp only [lf, List.set_cons_zero]
    rw [e]
    simp [wA_s, upd]
  | a :: t, i, j + 1, h => by
    have h2 : t[j]? = some 0 := by simpa using h
    have ih := lf_setI E M k v t (i + 1) j h2
    have e : i + 1 + j = i + (j + 1) := by omega
    rw [e] at ih
    match a with
    | 0 => simp only [lf, List.set_cons_succ]; rw [ih, wA_s]; simp [upd]
    | 1 => simp only [lf, List.set_cons_succ]; rw [ih, wA_2]
    | r + 2 => simp only [lf, List.set_cons_succ]; rw [ih]

theorem lf_setL_out (E : Ee) (M : Mm) (k : Nat) (v : Int64) : ∀ (fl : List Nat) (i j : Nat), j < i → lf E M k i fl = lf E (wL M k (vp_updL (M.2 k) j v)) k i fl
  | [], _, _, _ => rfl
  | 0 :: t, i, j, h => by simp only [lf]; rw [← lf_setL_out E M k v t (i + 1) j (by omega), wL_1]
  | 1 :: t, i, j, h => by simp only [lf]; rw [← lf_setL_out E M k v t (i + 1) j (by omega), wL_s]; simp [vp_updL, show ¬ i = j by omega]
  | (r + 2) :: t, i, j, h => by simp only [lf]; rw [← lf_setL_out E M k v t (i + 1) j (by omega)]
theorem lf_setL (E : Ee) (M : Mm) (k : Nat) (v : Int64) : ∀ (fl : List Nat) (i j : Nat), fl[j]? = some 1 → (lf E M k i fl).set j (.long v) = lf E (wL M k (vp_updL (M.2 k) (i + j) v)) k i fl
  | [], _, _, h => by simp at h
  | a :: t, i, 0, h => by
    simp at h
    subst h
    have e : lf E M k (i + 1) t = lf E (wL M k (vp_updL (M.2 k) (i + 0) v)) k (i + 1) t := by
      exact lf_setL_out E M k v t (i + 1) (i + 0) (by omega)
    simp only [lf, List.set_cons_zero]
    rw [e]
    simp [wL_s, vp_updL]
  | a :: t, i, j + 1, h => by
    have h2 : t[j]? = some 1 := by simpa using h
    have ih := lf_setL E M k v t (i + 1) j h2
    have e : i + 1 + j = i + (j + 1) := by omega
    rw [e] at ih
    match a with
    | 0 => simp only [lf, List.set_cons_succ]; rw [ih, wL_1]
    | 1 => simp only [lf, List.set_cons_succ]; rw [ih, wL_s]; simp [vp_updL]
    | r + 2 => simp only [lf, List.set_cons_succ]; rw [ih]

