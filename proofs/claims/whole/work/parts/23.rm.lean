/-! the reference's tops and sets are the board's -/
def ltL (la : Nat → Int32) (vn : Nat → Bool) (LS : Nat → Nat → Bool) (l c : Nat) : Nat → Option Nat
  | 0 => none
  | k + 1 => if la k = nI l ∧ vn k = false ∧ LS k c = true then some k else ltL la vn LS l c k
def orE (a b : Option Nat) : Option Nat := match a with
  | some j => some j
  | none => b
def tvl (T0 : Int32) (val : Nat → Int32) : Option Nat → Int32
  | none => T0
  | some j => val j
theorem ltL_s {la : Nat → Int32} {vn : Nat → Bool} {LS : Nat → Nat → Bool} {l c k : Nat} : ltL la vn LS l c (k + 1) = if la k = nI l ∧ vn k = false ∧ LS k c = true then some k else ltL la vn LS l c k := rfl
theorem LSa_s {op : Nat → Nat → Int32} {C : Nat → Nat → Bool} {go : Nat → Bool} {k : Nat} : LSa op C go (k + 1) = if go k = true then teA op C k (fun j => if j = k then (fun _ => false) else LSa op C go k j) else (fun j => if j = k then (fun _ => false) else LSa op C go k j) := rfl
theorem ptK_s {la : Nat → Int32} {vn : Nat → Bool} {LS : Nat → Nat → Bool} {val : Nat → Int32} {l k : Nat} {T : Nat → Int32} : ptK la vn LS val l T (k + 1) = if la k = nI l ∧ vn k = false then (fun c => if LS k c = true then val k else ptK la vn LS val l T k c) else ptK la vn LS val l T k := rfl
theorem ltL_la {la : Nat → Int32} {vn : Nat → Bool} {LS : Nat → Nat → Bool} {l c : Nat} : ∀ {n j : Nat}, ltL la vn LS l c n = some j → la j = nI l
  | 0, _, h => by cases h
  | n + 1, j, h => by
    unfold ltL at h
    split at h
    · rename_i q; cases h; exact q.1
    · exact ltL_la h
theorem ptK_lt {la : Nat → Int32} {vn : Nat → Bool} {LS : Nat → Nat → Bool} {val : Nat → Int32} {l c : Nat} {T : Nat → Int32} : ∀ {n : Nat}, ptK la vn LS val l T n c = tvl (T c) val (ltL la vn LS l c n)
  | 0 => rfl
  | n + 1 => by
    have ih := ptK_lt (la := la) (vn := vn) (LS := LS) (val := val) (l := l) (c := c) (T := T) (n := n)
    rw [ptK_s, ltL_s]
    by_cases q : la n = nI l ∧ vn n = false
    · rw [if_pos q]
      by_cases s : LS n c = true
      · rw [if_pos s, if_pos ⟨q.1, q.2, s⟩]
        rfl
      · rw [if_neg s, if_neg (fun z => s z.2.2), ih]
    · rw [if_neg q, if_neg (fun z => q ⟨z.1, z.2.1⟩), ih]
theorem tvl_or {T0 : Int32} {val : Nat → Int32} {a b : Option Nat} : tvl (tvl T0 val b) val a = tvl T0 val (orE a b) := by cases a <;> rfl
theorem ptLy_3 {la : Nat → Int32} {vn : Nat → Bool} {LS : Nat → Nat → Bool} {val : Nat → Int32} {n c : Nat} {T : Nat → Int32} : ptLy la vn LS val n T 3 c = tvl (T c) val (orE (ltL la vn LS 2 c n) (orE (ltL la vn LS 1 c n) (ltL la vn LS 0 c n))) := by
  unfold ptLy ptLy ptLy ptLy
  rw [ptK_lt, ptK_lt, ptK_lt, tvl_or, tvl_or]
  cases ltL la vn LS 2 c n <;> rfl
theorem lt01 : nI 0 < nI 1 ∧ nI 0 < nI 2 ∧ nI 1 < nI 2 ∧ ¬ nI 0 < nI 0 ∧ ¬ nI 1 < nI 1 ∧ ¬ nI 2 < nI 2 ∧ ¬ nI 1 < nI 0 ∧ ¬ nI 2 < nI 0 ∧ ¬ nI 2 < nI 1 ∧ ¬ nI 0 = nI 1 ∧ ¬ nI 0 = nI 2 ∧ ¬ nI 1 = nI 2 ∧ ¬ nI 1 = nI 0 ∧ ¬ nI 2 = nI 0 ∧ ¬ nI 2 = nI 1 := by decide
theorem tp_or {la : Nat → Int32} {vn : Nat → Bool} {LS : Nat → Nat → Bool} {c : Nat} : ∀ {n : Nat}, (∀ k, k < n → la k = nI 0 ∨ la k = nI 1 ∨ la k = nI 2) → tpM la vn LS n c = orE (ltL la vn LS 2 c n) (orE (ltL la vn LS 1 c n) (ltL la vn LS 0 c n))
  | 0, _ => rfl
  | n + 1, h => by
    have ih := tp_or (la := la) (vn := vn) (LS := LS) (c := c) (n := n) (fun k hk => h k (by omega))
    obtain ⟨q01, q02, q12, q00, q11, q22, q10, q20, q21, e01, e02, e12, e10, e20, e21⟩ := lt01
    show (if vn n = false ∧ LS n c = true ∧ tgE la n (tpM la vn LS n c) = true then some n else tpM la vn LS n c) = _
    rw [ih, ltL_s, ltL_s, ltL_s]
    have l2 := fun j => ltL_la (la := la) (vn := vn) (LS := LS) (l := 2) (c := c) (n := n) (j := j)
    have l1 := fun j => ltL_la (la := la) (vn := vn) (LS := LS) (l := 1) (c := c) (n := n) (j := j)
    have l0 := fun j => ltL_la (la := la) (vn := vn) (LS := LS) (l := 0) (c := c) (n := n) (j := j)
    by_cases hv : vn n = false ∧ LS n c = true
    · obtain ⟨v1, v2⟩ := hv
      rcases h n (by omega) with e | e | e
      · cases h2 : ltL la vn LS 2 c n with
        | some j => simp [e, v1, v2, orE, tgE, l2 j h2, q02, e02, e01]
        | none =>
          cases h1 : ltL la vn LS 1 c n with
          | some j => simp [e, v1, v2, orE, tgE, l1 j h1, q01, e02, e01]
          | none =>
            cases h0 : ltL la vn LS 0 c n with
            | some j => simp [e, v1, v2, orE, tgE, l0 j h0, q00, e02, e01]
            | none => simp [e, v1, v2, orE, tgE, e02, e01]
      · cases h2 : ltL la vn LS 2 c n with
        | some j => simp [e, v1, v2, orE, tgE, l2 j h2, q12, e12, e10]
        | none =>
          cases h1 : ltL la vn LS 1 c n with
          | some j => simp [e, v1, v2, orE, tgE, l1 j h1, q11, e12, e10]
          | none =>
            cases h0 : ltL la vn LS 0 c n with
            | some j => simp [e, v1, v2, orE, tgE, l0 j h0, q10, e12, e10]
            | none => simp [e, v1, v2, orE, tgE, e12, e10]
      · cases h2 : ltL la vn LS 2 c n with
        | some j => simp [e, v1, v2, orE, tgE, l2 j h2, q22, e20, e21]
        | none =>
          cases h1 : ltL la vn LS 1 c n with
          | some j => simp [e, v1, v2, orE, tgE, l1 j h1, q21, e20, e21]
          | none =>
            cases h0 : ltL la vn LS 0 c n with
            | some j => simp [e, v1, v2, orE, tgE, l0 j h0, q20, e20, e21]
            | none => simp [e, v1, v2, orE, tgE, e20, e21]
    · rw [if_neg (fun z => hv ⟨z.1, z.2.1⟩), if_neg (fun z => hv z.2), if_neg (fun z => hv z.2), if_neg (fun z => hv z.2)]
theorem tpM_cong {la la2 : Nat → Int32} {vn vn2 : Nat → Bool} {LS LS2 : Nat → Nat → Bool} {c : Nat} : ∀ {n : Nat}, (∀ k, k < n → la k = la2 k ∧ vn k = vn2 k ∧ LS k c = LS2 k c) → tpM la vn LS n c = tpM la2 vn2 LS2 n c
  | 0, _ => rfl
  | n + 1, h => by
    have ih := tpM_cong (la := la) (la2 := la2) (vn := vn) (vn2 := vn2) (LS := LS) (LS2 := LS2) (c := c) (n := n) (fun k hk => h k (by omega))
    obtain ⟨a, b, d⟩ := h n (by omega)
    show (if vn n = false ∧ LS n c = true ∧ tgE la n (tpM la vn LS n c) = true then some n else tpM la vn LS n c) = (if vn2 n = false ∧ LS2 n c = true ∧ tgE la2 n (tpM la2 vn2 LS2 n c) = true then some n else tpM la2 vn2 LS2 n c)
    rw [ih, b, d]
    have e : tgE la n (tpM la2 vn2 LS2 n c) = tgE la2 n (tpM la2 vn2 LS2 n c) := by
      cases q : tpM la2 vn2 LS2 n c with
      | none => rfl
      | some j =>
        have := tpM_lt q
        show (!decide (la n < la j)) = (!decide (la2 n < la2 j))
        rw [a, (h j (by omega)).1]
    rw [e]
/-- the number on top -/
def tA (op : Nat → Nat → Int32) (C : Nat → Nat → Bool) (go : Nat → Bool) (n : Nat) (t : Int32) : Nat → Option Nat := tpM (fun k => op k 2) (vnA op t) (LSa op C go n) n
theorem tA_lt {op : Nat → Nat → Int32} {C : Nat → Nat → Bool} {go : Nat → Bool} {n : Nat} {t : Int32} {c j : Nat} (h : tA op C go n t c = some j) : j < n := tpM_lt h
def lay3 (op : Nat → Nat → Int32) (n : Nat) : Prop := ∀ k, k < n → op k 2 = nI 0 ∨ op k 2 = nI 1 ∨ op k 2 = nI 2
theorem topA_t {op : Nat → Nat → Int32} {C : Nat → Nat → Bool} {go : Nat → Bool} {n : Nat} {t : Int32} (h : lay3 op n) (c : Nat) : topA op C go n t c = numI (tA op C go n t c) := by
  unfold topA tA
  rw [ptLy_3, tp_or h]
  cases orE (ltL (fun k => op k 2) (vnA op t) (LSa op C go n) 2 c n) (orE (ltL (fun k => op k 2) (vnA op t) (LSa op C go n) 1 c n) (ltL (fun k => op k 2) (vnA op t) (LSa op C go n) 0 c n)) <;> rfl
theorem colA_t {op : Nat → Nat → Int32} {C : Nat → Nat → Bool} {go : Nat → Bool} {n : Nat} {t : Int32} (h : lay3 op n) (c : Nat) : colA op C go n t c = tvl (nI 0) (fun k => op k 3) (tA op C go n t c) := by
  unfold colA tA
  rw [ptLy_3, tp_or h]
theorem opOk_lay {t n : Nat} {op : Nat → Nat → Int32} (h : ∀ i, i < n → opOk t (op i)) : lay3 op n := fun k hk => by
  obtain ⟨v, hv, e⟩ := (h k hk).2.2.1
  rcases (show v = 0 ∨ v = 1 ∨ v = 2 by omega) with rfl | rfl | rfl
  · exact Or.inl e
  · exact Or.inr (Or.inl e)
  · exact Or.inr (Or.inr e)
/-- an erasure has nothing left -/
theorem erS_e0 {p : Int32} {s : Bool} {D : Nat → Bool} : erS p s (fun _ => false) D = (fun _ => false) := by
  unfold erS
  split
  · split <;> rfl
  · split <;> simp
theorem LSa_er {op : Nat → Nat → Int32} {C : Nat → Nat → Bool} {go : Nat → Bool} : ∀ {n j : Nat}, op j 0 = nI 2 → LSa op C go n j = (fun _ => false)
  | 0, _, _ => rfl
  | n + 1, j, h => by
    have ih := LSa_er (op := op) (C := C) (go := go) (n := n) (j := j) h
    have e : (if j = n then (fun _ => false) else LSa op C go n j) = (fun _ => false) := by
      split
      · rfl
      · exact ih
    rw [LSa_s]
    by_cases g : go n = true
    · rw [if_pos g]
      unfold teA
      by_cases s : op n 0 = nI 2
      · rw [if_pos s]
        simp only [e, erS_e0]
        split <;> rfl
      · rw [if_neg s]
        have : ¬ j = n := fun q => s (q ▸ h)
        simp only [if_neg this]
        exact ih
    · rw [if_neg g]
      exact e
theorem erM_S {p : Int32} {same : Bool} {S S2 D D2 : Nat → Bool} (hp : p = nI 0 ∨ p = nI 1 ∨ p = nI 2) (hS : ∀ c, c < 256 → S c = S2 c) (hD : ∀ c, c < 256 → D c = D2 c) {c : Nat} (hc : c < 256) : erM p (decide (p < nI 2) || same) S D c = erS p same S2 D2 c := by
  have ex : exB 256 (fun c => S c && D c) = exB 256 (fun c => S2 c && D2 c) := exB_cong (fun i hi => by rw [hS i hi, hD i hi])
  obtain ⟨q01, q02, q12, q00, q11, q22, q10, q20, q21, e01, e02, e12, e10, e20, e21⟩ := lt01
  have e00 : nI 0 = (0 : Int32) := rfl
  rcases hp with rfl | rfl | rfl
  · unfold erM erS
    rw [if_pos (by simp [q02]), if_neg e01, if_neg e01, if_pos (show nI 0 = 0 ∨ same = true from Or.inl rfl)]
    simp only [hS c hc, hD c hc]
  · unfold erM erS
    rw [if_pos (by simp [q12]), if_pos rfl, if_pos rfl, ex]
    split
    · rfl
    · exact hS c hc
  · unfold erM erS
    cases same
    · rw [if_neg (by simp [q22]), if_neg e21, if_neg (by rintro (z | z); exact e20 z; cases z)]
      exact hS c hc
    · rw [if_pos (by simp), if_neg e21, if_neg e21, if_pos (Or.inr rfl)]
      simp only [hS c hc, hD c hc]
theorem LM_LSa {M : Mm} {C L0 : Nat → Nat → Bool} {op : Nat → Nat → Int32} {Ca : Nat → Nat → Bool} {go : Nat → Bool} : ∀ {n : Nat}, (∀ i, i < n → ∀ b, b < 6 → M.1 (479 + b) i = op i b) → (∀ i, i < n → M.1 498 i = b2i (go i)) → (∀ i, i < n → ∀ c, c < 256 → C i c = Ca i c) → (∀ i, i < n → op i 0 = nI 2 → op i 3 = nI 0 ∨ op i 3 = nI 1 ∨ op i 3 = nI 2) → ∀ j, j < n → ∀ c, c < 256 → LM M C L0 n j c = LSa op Ca go n j c
  | 0, _, _, _, _ => fun j hj => absurd hj (by omega)
  | n + 1, h1, h2, h3, h4 => by
    have ih := LM_LSa (M := M) (C := C) (L0 := L0) (op := op) (Ca := Ca) (go := go) (n := n) (fun i hi => h1 i (by omega)) (fun i hi => h2 i (by omega)) (fun i hi => h3 i (by omega)) (fun i hi => h4 i (by omega))
    have hso : ∀ i, i < n + 1 → M.1 479 i = op i 0 := fun i hi => h1 i hi 0 (by omega)
    have hus : ∀ i, i < n + 1 → M.1 480 i = op i 1 := fun i hi => h1 i hi 1 (by omega)
    have hla : ∀ i, i < n + 1 → M.1 481 i = op i 2 := fun i hi => h1 i hi 2 (by omega)
    have hki : ∀ i, i < n + 1 → M.1 482 i = op i 3 := fun i hi => h1 i hi 3 (by omega)
    have hgo : (¬ M.1 498 n = 0) ↔ go n = true := by rw [h2 n (by omega), b2i_n0]
    intro j hj c hc
    rw [LM_s]
    rw [LSa_s]
    by_cases g : go n = true
    · rw [if_pos g]
      unfold teA
      by_cases s : op n 0 = nI 2
      · rw [if_pos ⟨hgo.mpr g, by rw [hso n (by omega)]; exact s⟩, if_pos s]
        unfold ebM
        by_cases q : j < n
        · have l1 : l1M M C n (LM M C L0 n) j = LM M C L0 n j := by unfold l1M; rw [if_neg (by omega)]
          rw [if_pos q, l1]
          dsimp only
          rw [if_neg (show ¬ j = n by omega)]
          unfold isE
          rw [hso j (by omega), hla j (by omega), hla n (by omega), hki n (by omega), hus j (by omega), hus n (by omega)]
          by_cases z : op j 0 = nI 2
          · have e := LSa_er (op := op) (C := Ca) (go := go) (n := n) (j := j) z
            rw [show (!decide (op j 0 = nI 2)) = false by simp [z], Bool.false_and, Bool.false_and]
            have e2 : erM (op n 3) false (LM M C L0 n j) (C n) c = LM M C L0 n j c := by unfold erM; rw [if_neg (by decide)]
            rw [e2, ih j q c hc, e, erS_e0]
            split <;> rfl
          · rw [show (!decide (op j 0 = nI 2)) = true by simp [z], Bool.true_and]
            by_cases y : op j 2 ≤ op n 2
            · rw [decide_eq_true y, Bool.true_and, if_pos ⟨q, y⟩]
              exact erM_S (h4 n (by omega) s) (fun x hx => ih j q x hx) (fun x hx => h3 n (by omega) x hx) hc
            · rw [decide_eq_false y, Bool.false_and, if_neg (fun w => y w.2)]
              have e2 : erM (op n 3) false (LM M C L0 n j) (C n) c = LM M C L0 n j c := by unfold erM; rw [if_neg (by decide)]
              rw [e2]
              exact ih j q c hc
        · have e : j = n := by omega
          subst e
          rw [if_neg (by omega), if_neg (fun w => q w.1)]
          dsimp only
          rw [if_pos rfl]
          unfold l1M lnM
          rw [if_pos rfl, hso j (by omega), s]
          simp
      · rw [if_neg (fun w => s (by rw [← hso n (by omega)]; exact w.2)), if_neg s]
        unfold l1M
        by_cases e : j = n
        · subst e
          rw [if_pos rfl, if_pos rfl]
          unfold lnM
          rw [hso j (by omega), show (!decide (M.1 498 j = 0)) = true by simp [hgo.mpr g], show (!decide (op j 0 = nI 2)) = true by simp [s], Bool.true_and, Bool.true_and]
          exact h3 j (by omega) c hc
        · rw [if_neg e]
          dsimp only
          rw [if_neg e, if_neg e]
          exact ih j (by omega) c hc
    · have g0 : M.1 498 n = 0 := Decidable.byContradiction (fun w => g (hgo.mp w))
      rw [if_neg g, if_neg (fun w => w.1 g0)]
      unfold l1M
      by_cases e : j = n
      · subst e
        rw [if_pos rfl, if_pos rfl]
        unfold lnM
        simp [g0]
      · rw [if_neg e, if_neg e]
        exact ih j (by omega) c hc
/-! the reference's memory means the state -/
def RelMO (M : Mm) (a : Ab) (W : Nat) : Prop := a_n a ≤ 60 ∧ a_t a ≤ 100000 ∧ M.1 478 1 = nI (a_t a) ∧ M.1 478 2 = nI (a_n a) ∧ (∀ i, i < a_n a → ∀ b, b < 6 → M.1 (479 + b) i = a_op a i b) ∧ (∀ i, i < a_n a → M.1 485 i = b2i (a_ac a i)) ∧ (∀ i, i < a_n a → M.1 486 i = nI (a_un a i)) ∧ (∀ i, i < a_n a → opOk (a_t a) (a_op a i)) ∧ (∃ u, u ≤ W ∧ M.1 478 11 = nI u ∧ ∀ i, i < a_n a → a_un a i ≤ u) ∧ ∃ C : Nat → Nat → Bool, M.2 487 = lws C ∧ ∀ i, i < a_n a → ∀ c, c < 256 → C i c = a_C a i c
def lkOk (t : Nat) (lk : List Lz) : Prop := lk.length ≤ 6 ∧ ∀ z ∈ lk, z.1 < 5 ∧ z.2.1 < 256 ∧ z.2.2.1 < 256 ∧ t < z.2.2.2 ∧ z.2.2.2 < 200000
def RelML (M : Mm) (t : Nat) (lk : List Lz) : Prop := lkOk t lk ∧ M.1 478 13 = nI lk.length ∧ ∀ j z, lk[j]? = some z → M.1 488 j = nI z.1 ∧ M.1 489 j = nI z.2.1 ∧ M.1 490 j = nI z.2.2.1 ∧ M.1 491 j = nI z.2.2.2
def RelMK (M : Mm) (a : Ab) : Prop := ∀ m, m < 6 → M.1 495 m = b2i (a_mk a m).1 ∧ ((a_mk a m).1 = true → (M.1 492 m = nI (a_mk a m).2.1 ∧ (a_mk a m).2.1 ≤ a_n a ∧ M.1 493 m = nI (a_mk a m).2.2.2 ∧ ∀ k, k < (a_mk a m).2.1 → bl (M.2 494 m) k = (a_mk a m).2.2.1 k))
def RelMT (M : Mm) (a : Ab) : Prop := M.1 478 22 = nI (a_ln a) ∧ a_ln a ≤ 40 ∧ ∀ i, i < a_ln a → M.1 496 i = a_cd a i
def RelM (M : Mm) (a : Ab) (W : Nat) : Prop := RelMO M a W ∧ RelML M (a_t a) (a_lk a) ∧ RelMK M a ∧ RelMT M a ∧ ∃ L : Nat → Nat → Bool, M.2 497 = lws L
theorem RelM_ag {M N : Mm} {a : Ab} {W : Nat} (h : RelM M a W) (h1 : ∀ x, 478 < x → x ≤ 496 → N.1 x = M.1 x) (h2 : ∀ b, b = 1 ∨ b = 2 ∨ b = 11 ∨ b = 13 ∨ b = 22 → N.1 478 b = M.1 478 b) (h3 : N.2 487 = M.2 487) (h4 : N.2 494 = M.2 494) (h5 : ∃ L, N.2 497 = lws L) : RelM N a W := by
  obtain ⟨⟨o1, o2, o3, o4, o5, o6, o7, o8, ⟨u, u1, u2, u3⟩, C, o9, o10⟩, ⟨l1, l2, l3⟩, hK, ⟨t1, t2, t3⟩, -⟩ := h
  refine ⟨⟨o1, o2, by rw [h2 1 (by simp)]; exact o3, by rw [h2 2 (by simp)]; exact o4, fun i hi b hb => by rw [h1 _ (by omega) (by omega)]; exact o5 i hi b hb, fun i hi => by rw [h1 485 (by omega) (by omega)]; exact o6 i hi, fun i hi => by rw [h1 486 (by omega) (by omega)]; exact o7 i hi, o8, ⟨u, u1, by rw [h2 11 (by simp)]; exact u2, u3⟩, C, by rw [h3]; exact o9, o10⟩,
    ⟨l1, by rw [h2 13 (by simp)]; exact l2, fun j z hz => by rw [h1 488 (by omega) (by omega), h1 489 (by omega) (by omega), h1 490 (by omega) (by omega), h1 491 (by omega) (by omega)]; exact l3 j z hz⟩,
    fun m hm => by rw [h1 495 (by omega) (by omega), h1 492 (by omega) (by omega), h1 493 (by omega) (by omega), h4]; exact hK m hm,
    ⟨by rw [h2 22 (by simp)]; exact t1, t2, fun i hi => by rw [h1 496 (by omega) (by omega)]; exact t3 i hi⟩, h5⟩
/-- what is laid: the operations that go, the sets left, the tops -/
def LayP (M M2 : Mm) (a : Ab) (go : Nat → Bool) (n : Nat) (t : Int32) : Prop := ∃ (g : Nat → Int32) (L : Nat → Nat → Bool) (f : Nat → Int32), M2 = wA (wL (wA M 498 g) 497 (lws L)) 499 f ∧ (∀ i, i < n → g i = b2i (go i)) ∧ (∀ k, k < n → ∀ c, c < 256 → L k c = LSa (a_op a) (a_C a) go n k c) ∧ ∀ c, c < 256 → f c = numI (tA (a_op a) (a_C a) go n t c)
theorem RelM_lay {M M2 : Mm} {a : Ab} {W : Nat} {go : Nat → Bool} {n : Nat} {t : Int32} (h : RelM M a W) (hl : LayP M M2 a go n t) : RelM M2 a W := by
  obtain ⟨g, L, f, rfl, -, -, -⟩ := hl
  exact RelM_ag h (fun x h1 h2 => by rw [wA_n (by omega), wL_1, wA_n (by omega)]) (fun b hb => by rw [wA_n (by omega), wL_1, wA_n (by omega)]) (by rw [wA_2, wL_n (by omega), wA_2]) (by rw [wA_2, wL_n (by omega), wA_2]) ⟨L, by rw [wA_2, wL_s]⟩
theorem opOk_er {t n : Nat} {op : Nat → Nat → Int32} (h : ∀ i, i < n → opOk t (op i)) : ∀ i, i < n → op i 0 = nI 2 → op i 3 = nI 0 ∨ op i 3 = nI 1 ∨ op i 3 = nI 2 := fun i hi e => by
  obtain ⟨v, hv, e3, q, -⟩ := (h i hi).2.2.2.1
  have := q e
  rcases (show v = 0 ∨ v = 1 ∨ v = 2 by omega) with rfl | rfl | rfl
  · exact Or.inl e3
  · exact Or.inr (Or.inl e3)
  · exact Or.inr (Or.inr e3)
