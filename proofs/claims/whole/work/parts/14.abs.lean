/-! the state that both sides mean: operations, tick, leases, marks, text -/
abbrev Lz : Type := Nat × Nat × Nat × Nat
abbrev Mz : Type := Bool × Nat × (Nat → Bool) × Nat
abbrev Ab : Type := Nat × Nat × (Nat → Nat → Int32) × (Nat → Bool) × (Nat → Nat → Bool) × (Nat → Nat) × List Lz × (Nat → Mz) × Nat × (Nat → Int32) × Mm
abbrev a_n (a : Ab) : Nat := a.1
abbrev a_t (a : Ab) : Nat := a.2.1
abbrev a_op (a : Ab) : Nat → Nat → Int32 := a.2.2.1
abbrev a_ac (a : Ab) : Nat → Bool := a.2.2.2.1
abbrev a_C (a : Ab) : Nat → Nat → Bool := a.2.2.2.2.1
abbrev a_un (a : Ab) : Nat → Nat := a.2.2.2.2.2.1
abbrev a_lk (a : Ab) : List Lz := a.2.2.2.2.2.2.1
abbrev a_mk (a : Ab) : Nat → Mz := a.2.2.2.2.2.2.2.1
abbrev a_ln (a : Ab) : Nat := a.2.2.2.2.2.2.2.2.1
abbrev a_cd (a : Ab) : Nat → Int32 := a.2.2.2.2.2.2.2.2.2.1
/-- what the board does not touch -/
abbrev a_g (a : Ab) : Mm := a.2.2.2.2.2.2.2.2.2.2
def RelG (M : Mm) (a : Ab) : Prop := (∀ x, 478 ≤ x → M.1 x = (a_g a).1 x) ∧ M.2 = (a_g a).2
/-- one erasing step, and what is left behind the first k operations, those that go -/
def teA (op : Nat → Nat → Int32) (C : Nat → Nat → Bool) (k : Nat) (LS : Nat → Nat → Bool) : Nat → Nat → Bool := if op k 0 = nI 2 then (fun j => if j < k ∧ op j 2 ≤ op k 2 then erS (op k 3) (decide (op j 1 = op k 1)) (LS j) (C k) else LS j) else (fun j => if j = k then C k else LS j)
def LSa (op : Nat → Nat → Int32) (C : Nat → Nat → Bool) (go : Nat → Bool) : Nat → Nat → Nat → Bool
  | 0 => fun _ _ => false
  | k + 1 => if go k = true then teA op C k (fun j => if j = k then (fun _ => false) else LSa op C go k j) else (fun j => if j = k then (fun _ => false) else LSa op C go k j)
def vnA (op : Nat → Nat → Int32) (t : Int32) (k : Nat) : Bool := vanI (op k 4) (op k 5) t
def topA (op : Nat → Nat → Int32) (C : Nat → Nat → Bool) (go : Nat → Bool) (n : Nat) (t : Int32) : Nat → Int32 := ptLy (fun k => op k 2) (vnA op t) (LSa op C go n) nI n (fun _ => -1) 3
def colA (op : Nat → Nat → Int32) (C : Nat → Nat → Bool) (go : Nat → Bool) (n : Nat) (t : Int32) : Nat → Int32 := ptLy (fun k => op k 2) (vnA op t) (LSa op C go n) (fun k => op k 3) n (fun _ => nI 0) 3
theorem ptK_cong {la la2 : Nat → Int32} {vn vn2 : Nat → Bool} {LS LS2 : Nat → Nat → Bool} {val val2 : Nat → Int32} {l : Nat} {T : Nat → Int32} : ∀ {n : Nat}, (∀ k, k < n → la k = la2 k ∧ vn k = vn2 k ∧ LS k = LS2 k ∧ val k = val2 k) → ptK la vn LS val l T n = ptK la2 vn2 LS2 val2 l T n
  | 0, _ => rfl
  | n + 1, h => by
    have ih := ptK_cong (la := la) (la2 := la2) (vn := vn) (vn2 := vn2) (LS := LS) (LS2 := LS2) (val := val) (val2 := val2) (l := l) (T := T) (n := n) (fun k hk => h k (by omega))
    obtain ⟨a, b, c, d⟩ := h n (by omega)
    simp only [ptK, ih, a, b, c, d]
theorem ptLy_cong {la la2 : Nat → Int32} {vn vn2 : Nat → Bool} {LS LS2 : Nat → Nat → Bool} {val val2 : Nat → Int32} {n : Nat} {T : Nat → Int32} (h : ∀ k, k < n → la k = la2 k ∧ vn k = vn2 k ∧ LS k = LS2 k ∧ val k = val2 k) : ∀ l, ptLy la vn LS val n T l = ptLy la2 vn2 LS2 val2 n T l
  | 0 => rfl
  | l + 1 => by
    unfold ptLy
    rw [ptLy_cong h l, ptK_cong h]
/-- the machine's scene, over any memory with these operations -/
theorem LSf_eq {M : Mm} {op : Nat → Nat → Int32} {Cb C : Nat → Nat → Bool} {sw : Int32} {go : Nat → Bool} : ∀ {n : Nat}, (∀ i, i < n → ∀ b, b < 6 → M.1 (7 + 3 * i) b = op i b) → (∀ i, i < n → Cb i = C i) → (∀ i, i < n → goB M sw i = go i) → LSf M Cb sw n = LSa op C go n
  | 0, _, _, _ => rfl
  | n + 1, h1, h2, h3 => by
    have ih := LSf_eq (M := M) (op := op) (Cb := Cb) (C := C) (sw := sw) (go := go) (n := n) (fun i hi => h1 i (by omega)) (fun i hi => h2 i (by omega)) (fun i hi => h3 i (by omega))
    have e : ∀ LS : Nat → Nat → Bool, teF M Cb n LS = teA op C n LS := by
      intro LS
      unfold teF teA
      rw [h1 n (by omega) 0 (by omega), h1 n (by omega) 2 (by omega), h1 n (by omega) 3 (by omega), h1 n (by omega) 1 (by omega), h2 n (by omega)]
      split
      · funext j
        by_cases q : j < n
        · rw [h1 j (by omega) 2 (by omega), h1 j (by omega) 1 (by omega)]
        · simp [q]
      · rfl
    simp only [LSf, LSa, ih, h3 n (by omega), e]
theorem shTop_eq {M : Mm} {op : Nat → Nat → Int32} {Cb C : Nat → Nat → Bool} {sw t : Int32} {go : Nat → Bool} {n : Nat} (h1 : ∀ i, i < n → ∀ b, b < 6 → M.1 (7 + 3 * i) b = op i b) (h2 : ∀ i, i < n → Cb i = C i) (h3 : ∀ i, i < n → goB M sw i = go i) : shTop M Cb n t sw = topA op C go n t ∧ shCol M Cb n t sw = colA op C go n t := by
  have e := LSf_eq h1 h2 h3
  unfold shTop topA shCol colA vnA
  rw [e]
  exact ⟨ptLy_cong (fun k hk => ⟨h1 k hk 2 (by omega), by rw [h1 k hk 4 (by omega), h1 k hk 5 (by omega)], rfl, rfl⟩) 3, ptLy_cong (fun k hk => ⟨h1 k hk 2 (by omega), by rw [h1 k hk 4 (by omega), h1 k hk 5 (by omega)], rfl, h1 k hk 3 (by omega)⟩) 3⟩
/-- an operation is as the board makes it -/
def opOk (t : Nat) (f : Nat → Int32) : Prop := (∃ v, v < 3 ∧ f 0 = nI v) ∧ (∃ v, v < 5 ∧ f 1 = nI v) ∧ (∃ v, v < 3 ∧ f 2 = nI v) ∧ (∃ v, v < 10 ∧ f 3 = nI v ∧ (f 0 = nI 2 → v < 3) ∧ (¬ f 0 = nI 2 → 1 ≤ v)) ∧ (∃ v, v < 1000 ∧ f 4 = nI v) ∧ ∃ v, v ≤ t ∧ f 5 = nI v
/-- the leases of the board that are in force -/
def lzL (own en : Nat → Nat) (fa la : Nat → Nat) (t : Nat) : List Lz := ((List.range 6).filter (fun j => decide (t < en j))).map (fun j => (own j, fa j, la j, en j))
def RelL (M : Mm) (t : Nat) (lk : List Lz) : Prop := ∃ (own en fa la : Nat → Nat), (∀ j, j < 6 → M.1 189 j = nI (own j) ∧ M.1 190 j = nI (en j) ∧ own j < 5 ∧ en j < 200000 ∧ fa j < 257 ∧ la j < 257) ∧ (∀ j, j < 6 → M.1 (191 + 2 * j + 1) = rowsOf (rect (fa j) (la j))) ∧ (lzL own en fa la t).Perm lk
/-- the undone operations of the board, by their order -/
def RelU (M : Mm) (n W : Nat) (un : Nat → Nat) : Prop := ∃ (ub : Nat → Nat) (w : Nat), w ≤ W ∧ M.1 5 2 = nI w ∧ (∀ i, i < n → M.1 (7 + 3 * i) 7 = nI (ub i) ∧ ub i ≤ w ∧ (0 < ub i ↔ 0 < un i)) ∧ ∀ i j, i < n → j < n → 0 < un i → 0 < un j → (ub i < ub j ↔ un i < un j)
def RelK (M : Mm) (a : Ab) : Prop := ∀ m, m < 6 → M.1 (460 + 3 * m) 0 = b2i (a_mk a m).1 ∧ ((a_mk a m).1 = true → (M.1 (460 + 3 * m) 1 = nI (a_mk a m).2.1 ∧ (a_mk a m).2.1 ≤ a_n a ∧ (∀ j, j < (a_mk a m).2.1 → M.1 (460 + 3 * m + 1) j = b2i ((a_mk a m).2.2.1 j)) ∧ ∀ c, c < 256 → M.1 (460 + 3 * m + 2) c = colA (a_op a) (a_C a) (a_mk a m).2.2.1 (a_mk a m).2.1 (nI (a_mk a m).2.2.2) c))
def RelS (M : Mm) (a : Ab) : Prop := (∀ i, i < a_n a → M.1 (204 + 5 + 2 * i + 1) = rowsOf (LSa (a_op a) (a_C a) (a_ac a) (a_n a) i)) ∧ M.1 206 = topA (a_op a) (a_C a) (a_ac a) (a_n a) (nI (a_t a)) ∧ M.1 207 = colA (a_op a) (a_C a) (a_ac a) (a_n a) (nI (a_t a)) ∧ M.1 208 = OF (topA (a_op a) (a_C a) (a_ac a) (a_n a) (nI (a_t a))) 256
def RelT (M : Mm) (a : Ab) : Prop := M.1 1 1 = nI (a_ln a) ∧ a_ln a ≤ 40 ∧ (∀ i, i < a_ln a → M.1 2 i = a_cd a i) ∧ ∃ vals : Nat → Nat, M.1 3 = (fun j => nI (vals (2 * j))) ∧ M.1 4 = (fun j => nI (vals (2 * j + 1))) ∧ (∀ j, vals j < 16) ∧ RelG M a
def RelR (M : Mm) : Prop := (∃ S : Nat → Bool, M.1 459 = rowsOf S) ∧ ∃ (R : Nat → Bool) (Q : Nat → Nat) (q : Nat), M.1 456 = rowsOf R ∧ M.1 457 = qA Q ∧ M.1 454 2 = nI q ∧ rok (R, Q, q)
/-- the operations of the board -/
def RelO (M : Mm) (a : Ab) : Prop := a_n a ≤ 60 ∧ a_t a ≤ 100000 ∧ M.1 0 8 = nI (a_t a) ∧ M.1 5 1 = nI (a_n a) ∧ (∀ i, i < a_n a → ∀ b, b < 6 → M.1 (7 + 3 * i) b = a_op a i b) ∧ (∀ i, i < a_n a → M.1 (7 + 3 * i) 6 = b2i (a_ac a i)) ∧ (∀ i, i < a_n a → opOk (a_t a) (a_op a i)) ∧ ∃ Cb : Nat → Nat → Bool, (∀ i, i < 60 → M.1 (7 + 3 * i + 1 + 1) = rowsOf (Cb i)) ∧ ∀ i, i < a_n a → Cb i = a_C a i
def RelB (M : Mm) (a : Ab) (W : Nat) : Prop := RelO M a ∧ RelL M (a_t a) (a_lk a) ∧ RelU M (a_n a) W (a_un a) ∧ RelK M a ∧ RelS M a ∧ RelT M a ∧ RelR M
theorem goB_m1 {M : Mm} {i : Nat} {b : Bool} (hi : i < 60) (h : M.1 (7 + 3 * i) 6 = b2i b) : goB M (-1) i = b := by
  unfold goB
  rw [if_neg (nI_m1 (by omega)), h]
  cases b <;> decide
theorem goB_sw {M : Mm} {i k : Nat} {b : Bool} (hi : i < 60) (hk : k < 60) (h : M.1 (7 + 3 * i) 6 = b2i b) : goB M (nI k) i = (if i = k then !b else b) := by
  unfold goB
  rw [h]
  by_cases q : i = k
  · subst q
    rw [if_pos rfl, if_pos rfl]
    cases b <;> decide
  · rw [if_neg (fun e => q ((nI_eq (by omega) (by omega)).mp e)), if_neg q]
    cases b <;> decide
/-- memories that differ in scratch cells alone mean the same -/
theorem RelB_ag {M N : Mm} {a : Ab} {W : Nat} (h : RelB M a W) (ho : ∀ x, x ≠ 454 → x ≠ 456 → x ≠ 457 → x ≠ 459 → N.1 x = M.1 x) (hr : RelR N) (h22 : N.2 = M.2) : RelB N a W := by
  obtain ⟨hO, hL, hU, hK, hS, hT, -⟩ := h
  obtain ⟨o1, o2, o3, o4, o5, o6, o7, Cb, o8, o9⟩ := hO
  obtain ⟨own, en, fa, la, l1, l2, l3⟩ := hL
  obtain ⟨ub, w, u1, u2, u3, u4⟩ := hU
  obtain ⟨s1, s2, s3, s4⟩ := hS
  obtain ⟨t1, t2, t3, vals, t4, t5, t6, t7⟩ := hT
  refine ⟨⟨o1, o2, by rw [ho 0 (by decide) (by decide) (by decide) (by decide)]; exact o3, by rw [ho 5 (by decide) (by decide) (by decide) (by decide)]; exact o4, fun i hi b hb => by rw [ho _ (by omega) (by omega) (by omega) (by omega)]; exact o5 i hi b hb, fun i hi => by rw [ho _ (by omega) (by omega) (by omega) (by omega)]; exact o6 i hi, o7, Cb, fun i hi => by rw [ho _ (by omega) (by omega) (by omega) (by omega)]; exact o8 i hi, o9⟩,
    ⟨own, en, fa, la, fun j hj => by rw [ho 189 (by decide) (by decide) (by decide) (by decide), ho 190 (by decide) (by decide) (by decide) (by decide)]; exact l1 j hj, fun j hj => by rw [ho _ (by omega) (by omega) (by omega) (by omega)]; exact l2 j hj, l3⟩,
    ⟨ub, w, u1, by rw [ho 5 (by decide) (by decide) (by decide) (by decide)]; exact u2, fun i hi => by rw [ho _ (by omega) (by omega) (by omega) (by omega)]; exact u3 i hi, u4⟩,
    fun m hm => ?_,
    ⟨fun i hi => by rw [ho _ (by omega) (by omega) (by omega) (by omega)]; exact s1 i hi, by rw [ho 206 (by decide) (by decide) (by decide) (by decide)]; exact s2, by rw [ho 207 (by decide) (by decide) (by decide) (by decide)]; exact s3, by rw [ho 208 (by decide) (by decide) (by decide) (by decide)]; exact s4⟩,
    ⟨by rw [ho 1 (by decide) (by decide) (by decide) (by decide)]; exact t1, t2, fun i hi => by rw [ho 2 (by decide) (by decide) (by decide) (by decide)]; exact t3 i hi, vals, by rw [ho 3 (by decide) (by decide) (by decide) (by decide)]; exact t4, by rw [ho 4 (by decide) (by decide) (by decide) (by decide)]; exact t5, t6, fun x hx => by rw [ho x (by omega) (by omega) (by omega) (by omega)]; exact t7.1 x hx, by rw [h22]; exact t7.2⟩, hr⟩
  have hk := hK m hm
  refine ⟨by rw [ho _ (by omega) (by omega) (by omega) (by omega)]; exact hk.1, fun hs => ?_⟩
  obtain ⟨k1, k2, k3, k4⟩ := hk.2 hs
  exact ⟨by rw [ho _ (by omega) (by omega) (by omega) (by omega)]; exact k1, k2, fun j hj => by rw [ho _ (by omega) (by omega) (by omega) (by omega)]; exact k3 j hj, fun c hc => by rw [ho _ (by omega) (by omega) (by omega) (by omega)]; exact k4 c hc⟩
