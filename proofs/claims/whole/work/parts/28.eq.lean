/-! the reference's answers are the board's -/
def Ld (M : Mm) (a : Ab) (W : Nat) : Prop := RelM M a W ∧ (∃ L : Nat → Nat → Bool, M.2 497 = lws L ∧ ∀ k, k < a_n a → ∀ c, c < 256 → L k c = lsA a k c) ∧ ∀ c, c < 256 → M.1 499 c = numI (tA (a_op a) (a_C a) (a_ac a) (a_n a) (nI (a_t a)) c)
theorem Ld_lay {M M2 : Mm} {a : Ab} {W : Nat} (hM : RelM M a W) (h : LayP M M2 a (a_ac a) (a_n a) (nI (a_t a))) : Ld M2 a W := by
  refine ⟨RelM_lay hM h, ?_⟩
  obtain ⟨g, L, f, rfl, -, hL, hf⟩ := h
  exact ⟨⟨L, by rw [wA_2, wL_s], hL⟩, fun c hc => by rw [wA_1s]; exact hf c hc⟩
theorem Ld_ag {M N : Mm} {a : Ab} {W : Nat} (h : Ld M a W) (h1 : ∀ x, 478 < x → x ≤ 496 → N.1 x = M.1 x) (h2 : ∀ b, b = 1 ∨ b = 2 ∨ b = 11 ∨ b = 13 ∨ b = 22 → N.1 478 b = M.1 478 b) (h3 : N.2 487 = M.2 487) (h4 : N.2 494 = M.2 494) (h5 : N.2 497 = M.2 497) (h6 : N.1 499 = M.1 499) : Ld N a W := by
  obtain ⟨hM, ⟨L, l1, l2⟩, hf⟩ := h
  exact ⟨RelM_ag hM h1 h2 h3 h4 ⟨L, by rw [h5]; exact l1⟩, ⟨L, by rw [h5]; exact l1, l2⟩, fun c hc => by rw [h6]; exact hf c hc⟩
theorem Ld_503 {M : Mm} {a : Ab} {W : Nat} (h : Ld M a W) (ρ : Nat → Int64) (g : Nat → Int32) : Ld (wA (wL M 502 ρ) 503 g) a W := Ld_ag h (fun x h1 h2 => by rw [wA_n (by omega)]; rfl) (fun b _ => by rw [wA_n (by omega)]; rfl) (by rw [wA_2, wL_n (by omega)]) (by rw [wA_2, wL_n (by omega)]) (by rw [wA_2, wL_n (by omega)]) (by rw [wA_n (by omega)]; rfl)
theorem Fr_503 {M : Mm} (ρ : Nat → Int64) (g : Nat → Int32) : Fr M (wA (wL M 502 ρ) 503 g) := ⟨fun x hx => by rw [wA_n (by omega)]; rfl, by rw [wA_2, wL_n (by omega)], by rw [wA_2, wL_n (by omega)]⟩
theorem Ld_tops {M : Mm} {a : Ab} {W : Nat} (h : Ld M a W) : topsOk M := fun c hc => ⟨_, h.2.2 c hc, fun j hj => by have := tA_lt hj; have := h.1.1.1; omega⟩
theorem Ld_sh {M : Mm} {a : Ab} {W : Nat} (h : Ld M a W) {c : Nat} (hc : c < 256) : shF M c = clA a c := by
  obtain ⟨⟨⟨h60, ht, htk, hn0, hop, hac, hun, hopk, hu, C, hC, hCa⟩, -⟩, -, hf⟩ := h
  show shF M c = colA _ _ _ _ _ c
  rw [colA_t (opOk_lay hopk)]
  unfold shF
  rw [hf c hc]
  cases e : tA (a_op a) (a_C a) (a_ac a) (a_n a) (nI (a_t a)) c with
  | none => rfl
  | some j =>
    have := tA_lt e
    show (if nI j = -1 then _ else M.1 482 (nI j).toNatClampNeg) = a_op a j 3
    rw [if_neg (nI_m1 (by omega)), nI_clamp (by omega)]
    exact hop j (by omega) 3 (by omega)
theorem Ld_top {M : Mm} {a : Ab} {W : Nat} (h : Ld M a W) {c : Nat} (hc : c < 256) : M.1 499 c = tpA a c := by
  show M.1 499 c = topA _ _ _ _ _ c
  rw [topA_t (opOk_lay h.1.1.2.2.2.2.2.2.2.1), h.2.2 c hc]
/-- what is on top is not an erasure -/
theorem tpM_L {la : Nat → Int32} {vn : Nat → Bool} {L : Nat → Nat → Bool} {c : Nat} : ∀ {n j : Nat}, tpM la vn L n c = some j → L j c = true
  | 0, _, h => by cases h
  | n + 1, j, h => by
    have h : (if vn n = false ∧ L n c = true ∧ tgE la n (tpM la vn L n c) = true then some n else tpM la vn L n c) = some j := h
    split at h
    · rename_i q; cases h; exact q.2.1
    · exact tpM_L h
theorem clA_v {a : Ab} (h60 : a_n a ≤ 60) (hopk : ∀ i, i < a_n a → opOk (a_t a) (a_op a i)) (c : Nat) : (tpA a c = -1 ∧ clA a c = nI 0) ∨ (¬ tpA a c = -1 ∧ ∃ v, 1 ≤ v ∧ v < 10 ∧ clA a c = nI v) := by
  show (topA _ _ _ _ _ c = -1 ∧ colA _ _ _ _ _ c = nI 0) ∨ (¬ topA _ _ _ _ _ c = -1 ∧ ∃ v, 1 ≤ v ∧ v < 10 ∧ colA _ _ _ _ _ c = nI v)
  rw [topA_t (opOk_lay hopk), colA_t (opOk_lay hopk)]
  cases e : tA (a_op a) (a_C a) (a_ac a) (a_n a) (nI (a_t a)) c with
  | none => exact Or.inl ⟨rfl, rfl⟩
  | some j =>
    right
    have hj := tA_lt e
    have hl : LSa (a_op a) (a_C a) (a_ac a) (a_n a) j c = true := tpM_L e
    have ne : ¬ a_op a j 0 = nI 2 := fun z => by rw [LSa_er z] at hl; cases hl
    obtain ⟨v, hv, e3, -, q⟩ := (hopk j hj).2.2.2.1
    refine ⟨?_, v, q ne, hv, e3⟩
    show ¬ nI j = -1
    exact nI_m1 (by omega)
theorem exB_list {α : Type} (d : α) (p : α → Bool) (l : List α) : exB l.length (fun j => p (l[j]?.getD d)) = l.any p := by
  rw [Bool.eq_iff_iff, exB_iff, List.any_eq_true]
  constructor
  · rintro ⟨i, hi, h⟩
    rw [List.getElem?_eq_getElem hi] at h
    exact ⟨l[i], List.getElem_mem hi, h⟩
  · rintro ⟨x, hx, h⟩
    obtain ⟨i, hi, e⟩ := List.mem_iff_getElem.mp hx
    refine ⟨i, hi, ?_⟩
    rw [List.getElem?_eq_getElem hi, Option.getD_some, e]
    exact h
theorem ct_list {α : Type} (d : α) (p : α → Bool) : ∀ (l : List α), fb_ct (fun j => p (l[j]?.getD d)) l.length = (l.filter p).length := by
  intro l
  rw [ct_filter]
  have : l = (List.range l.length).map (fun j => l[j]?.getD d) := by
    refine List.ext_getElem (by simp) (fun i h1 h2 => ?_)
    simp [List.getElem?_eq_getElem h1]
  conv => rhs; rw [this]
  rw [List.filter_map, List.length_map]
  rfl
abbrev lkD (lk : List Lz) (j : Nat) : Lz := lk[j]?.getD (0, 0, 0, 0)
theorem ml_h {M : Mm} {t : Nat} {lk : List Lz} (h : RelML M t lk) : ∀ j, j < lk.length → M.1 488 j = nI (lkD lk j).1 ∧ M.1 489 j = nI (lkD lk j).2.1 ∧ M.1 490 j = nI (lkD lk j).2.2.1 ∧ (lkD lk j).1 < 5 ∧ (lkD lk j).2.1 < 256 ∧ (lkD lk j).2.2.1 < 256 := fun j hj => by
  have e : lk[j]? = some lk[j] := List.getElem?_eq_getElem hj
  obtain ⟨a, b, c, -⟩ := h.2.2 j _ e
  obtain ⟨x, y, z, -⟩ := h.1.2 lk[j] (List.getElem_mem hj)
  simp only [lkD, e, Option.getD_some]
  exact ⟨a, b, c, x, y, z⟩
theorem ml_e {M : Mm} {t : Nat} {lk : List Lz} (h : RelML M t lk) : ∀ j, j < lk.length → M.1 491 j = nI (lkD lk j).2.2.2 ∧ t < (lkD lk j).2.2.2 ∧ (lkD lk j).2.2.2 < 200000 := fun j hj => by
  have e : lk[j]? = some lk[j] := List.getElem?_eq_getElem hj
  obtain ⟨-, -, -, d⟩ := h.2.2 j _ e
  obtain ⟨-, -, -, z⟩ := h.1.2 lk[j] (List.getElem_mem hj)
  simp only [lkD, e, Option.getD_some]
  exact ⟨d, z⟩
/-- the lowest holder -/
def IsHol (lk : List Lz) (c : Nat) (r : Int32) : Prop := (r = -1 ∧ ∀ z ∈ lk, rect z.2.1 z.2.2.1 c = false) ∨ ∃ z ∈ lk, rect z.2.1 z.2.2.1 c = true ∧ r = nI z.1 ∧ ∀ y ∈ lk, rect y.2.1 y.2.2.1 c = true → z.1 ≤ y.1
theorem IsHol_u {lk : List Lz} {c : Nat} {r s : Int32} (h1 : IsHol lk c r) (h2 : IsHol lk c s) : r = s := by
  rcases h1 with ⟨e, p⟩ | ⟨z, hz, pz, e, q⟩ <;> rcases h2 with ⟨e2, p2⟩ | ⟨z2, hz2, pz2, e2, q2⟩
  · rw [e, e2]
  · rw [p z2 hz2] at pz2; cases pz2
  · rw [p2 z hz] at pz; cases pz
  · have := q z2 hz2 pz2
    have := q2 z hz pz
    rw [e, e2, show z.1 = z2.1 by omega]
theorem IsHol_p {l m : List Lz} (hp : l.Perm m) {c : Nat} {r : Int32} (h : IsHol l c r) : IsHol m c r := by
  rcases h with ⟨e, p⟩ | ⟨z, hz, pz, e, q⟩
  · exact Or.inl ⟨e, fun z hz => p z (hp.mem_iff.mpr hz)⟩
  · exact Or.inr ⟨z, hp.mem_iff.mp hz, pz, e, fun y hy => q y (hp.mem_iff.mpr hy)⟩
theorem hoF_sp {M : Mm} {us fa la : Nat → Nat} {c : Nat} : ∀ {q : Nat}, (∀ j, j < q → M.1 488 j = nI (us j) ∧ us j < 5) → (hoF M fa la c q = -1 ∧ ∀ j, j < q → rect (fa j) (la j) c = false) ∨ ∃ j, j < q ∧ rect (fa j) (la j) c = true ∧ hoF M fa la c q = nI (us j) ∧ ∀ i, i < q → rect (fa i) (la i) c = true → us j ≤ us i
  | 0, _ => Or.inl ⟨rfl, fun j hj => absurd hj (by omega)⟩
  | q + 1, h => by
    have ih := hoF_sp (M := M) (us := us) (fa := fa) (la := la) (c := c) (q := q) (fun j hj => h j (by omega))
    obtain ⟨hq, h5⟩ := h q (by omega)
    rw [hoF_s]
    cases hr : rect (fa q) (la q) c with
    | false =>
      rw [if_neg (fun z => by cases z.1)]
      rcases ih with ⟨e, p⟩ | ⟨j, hj, pj, e, p⟩
      · refine Or.inl ⟨e, fun i hi => ?_⟩
        by_cases k : i = q
        · subst k; exact hr
        · exact p i (by omega)
      · refine Or.inr ⟨j, by omega, pj, e, fun i hi pi => ?_⟩
        by_cases k : i = q
        · subst k; rw [hr] at pi; cases pi
        · exact p i (by omega) pi
    | true =>
      rcases ih with ⟨e, p⟩ | ⟨j, hj, pj, e, p⟩
      · rw [if_pos ⟨rfl, Or.inl e⟩]
        refine Or.inr ⟨q, by omega, hr, hq, fun i hi pi => ?_⟩
        by_cases k : i = q
        · subst k; exact Nat.le_refl _
        · rw [p i (by omega)] at pi; cases pi
      · have h5j := (h j (by omega)).2
        by_cases k : us q < us j
        · rw [if_pos ⟨rfl, Or.inr (by rw [hq, e]; exact nI_lt k (by omega))⟩]
          refine Or.inr ⟨q, by omega, hr, hq, fun i hi pi => ?_⟩
          by_cases k2 : i = q
          · subst k2; exact Nat.le_refl _
          · have := p i (by omega) pi; omega
        · rw [if_neg (fun z => by
            rcases z.2 with y | y
            · rw [e] at y; exact nI_m1 (by omega) y
            · rw [hq, e] at y; exact nI_nlt (by omega) (by omega) y)]
          refine Or.inr ⟨j, by omega, pj, e, fun i hi pi => ?_⟩
          by_cases k2 : i = q
          · subst k2; omega
          · exact p i (by omega) pi
theorem ho_is {M : Mm} {t : Nat} {lk : List Lz} (h : RelML M t lk) {c : Nat} : IsHol lk c (hoF M (fun j => (lkD lk j).2.1) (fun j => (lkD lk j).2.2.1) c lk.length) := by
  have mem : ∀ z ∈ lk, ∃ j, j < lk.length ∧ lkD lk j = z := fun z hz => by
    obtain ⟨i, hi, e⟩ := List.mem_iff_getElem.mp hz
    exact ⟨i, hi, by simp only [lkD, List.getElem?_eq_getElem hi, Option.getD_some, e]⟩
  have inl : ∀ j, j < lk.length → lkD lk j ∈ lk := fun j hj => by
    simp only [lkD, List.getElem?_eq_getElem hj, Option.getD_some]
    exact List.getElem_mem hj
  rcases hoF_sp (M := M) (us := fun j => (lkD lk j).1) (fa := fun j => (lkD lk j).2.1) (la := fun j => (lkD lk j).2.2.1) (c := c) (q := lk.length) (fun j hj => ⟨(ml_h h j hj).1, (ml_h h j hj).2.2.2.1⟩) with ⟨e, p⟩ | ⟨j, hj, pj, e, p⟩
  · refine Or.inl ⟨e, fun z hz => ?_⟩
    obtain ⟨j, hj, rfl⟩ := mem z hz
    exact p j hj
  · refine Or.inr ⟨lkD lk j, inl j hj, pj, e, fun y hy py => ?_⟩
    obtain ⟨i, hi, rfl⟩ := mem y hy
    exact p i hi py
theorem held_ho {M : Mm} {t : Nat} {lk : List Lz} (h : RelML M t lk) {c : Nat} : (!decide (hoF M (fun j => (lkD lk j).2.1) (fun j => (lkD lk j).2.2.1) c lk.length = -1)) = held lk c := by
  unfold held
  rcases ho_is h (c := c) with ⟨e, p⟩ | ⟨z, hz, pz, e, -⟩
  · rw [e, decide_eq_true rfl]
    symm
    rw [Bool.not_true, List.any_eq_false]
    intro z hz
    rw [p z hz]
    decide
  · have h5 := (h.1.2 z hz).1
    rw [e, decide_eq_false (nI_m1 (by omega))]
    symm
    rw [Bool.not_false, List.any_eq_true]
    exact ⟨z, hz, pz⟩
/-- the colors -/
theorem bt_coI {M : Mm} {v : Nat → Nat} : ∀ {n : Nat}, (∀ c, c < n → ¬ M.1 499 c = -1 → shF M c = nI (v c) ∧ v c < 10) → ∀ b, b < 32 → bt (coI M n) b = exB n (fun c => !decide (M.1 499 c = -1) && decide (v c = b))
  | 0, _ => fun b hb => bt_0 b
  | n + 1, h => fun b hb => by
    have ih := bt_coI (M := M) (v := v) (n := n) (fun c hc => h c (by omega)) b hb
    show bt (coI M n ||| _) b = _
    rw [bt_or, ih]
    by_cases e : M.1 499 n = -1
    · rw [if_pos e, bt_0]
      cases q : exB n (fun c => !decide (M.1 499 c = -1) && decide (v c = b)) with
      | true => rw [exB_s1 q]; rfl
      | false => rw [exB_s0 q (by simp [e])]; rfl
    · obtain ⟨e1, e2⟩ := h n (by omega) e
      rw [if_neg e, e1, bt_one (v n) (by omega) b hb]
      cases q : exB n (fun c => !decide (M.1 499 c = -1) && decide (v c = b)) with
      | true => rw [exB_s1 q]; rfl
      | false =>
        by_cases z : v n = b
        · rw [exB_s2 (by simp [e, z])]; simp [z]
        · rw [exB_s0 q (by simp [z])]
          simp only [Bool.false_or, decide_eq_false_iff_not]
          exact fun w => z w.symm
theorem bl_i2l {x : Int32} (h : bt x 31 = false) {i : Nat} (hi : i < 64) : bl x.toInt64 i = (decide (i < 32) && bt x i) := by
  show (x.toBitVec.signExtend 64).getLsbD i = _
  rw [BitVec.getLsbD_signExtend]
  have hm : x.toBitVec.msb = false := by rw [BitVec.msb_eq_getLsbD_last]; exact h
  by_cases q : i < 32
  · rw [if_pos q]; simp [hi, q]; rfl
  · rw [if_neg q, hm]; simp [q]
theorem ct_64 {p : Nat → Bool} (h : ∀ i, 10 ≤ i → p i = false) (h0 : p 0 = false) : fb_ct p 64 = fb_ct (fun j => p (j + 1)) 9 := by
  have e1 : fb_ct p 64 = fb_ct p 10 := by
    rw [show (64 : Nat) = 10 + 54 from rfl, fb_ct_split]
    have : fb_ct (fun k => p (10 + k)) 54 = 0 := fb_ct_zero.mpr (fun k _ => h _ (by omega))
    omega
  rw [e1, show (10 : Nat) = 1 + 9 from rfl, fb_ct_split]
  have : fb_ct p 1 = 0 := fb_ct_zero.mpr (fun k hk => by rw [show k = 0 by omega]; exact h0)
  rw [this, Nat.zero_add]
  exact fb_ct_cong (fun k _ => by rw [Nat.add_comm])
theorem csz_0 {S : Nat → Bool} : (!decide (nI (csz S) ≤ 0)) = exB 256 S := by
  have hl : csz S ≤ 256 := fb_ct_le S 256
  cases e : exB 256 S with
  | true =>
    obtain ⟨i, hi, hs⟩ := exB_iff.mp e
    have : 0 < csz S := fb_ct_pos.mpr ⟨i, hi, hs⟩
    rw [decide_eq_false (show ¬ nI (csz S) ≤ 0 from nI_ge (a := 0) this (by omega))]
    rfl
  | false =>
    have : csz S = 0 := fb_ct_zero.mpr (fun k hk => by
      cases q : S k with
      | false => rfl
      | true => rw [exB_t hk q] at e; cases e)
    rw [this]
    rfl
theorem col_eq {M : Mm} {a : Ab} {W : Nat} (h : Ld M a W) : fb_ct (bl (coI M 256).toInt64) 64 = fb_ct (fun j => !decide (nI (csz (colSA a (j + 1))) ≤ 0)) 9 := by
  have h60 := h.1.1.1
  have hopk := h.1.1.2.2.2.2.2.2.2.1
  have hv := clA_v h60 hopk
  have hb := bt_coI (M := M) (v := fun c => (clA a c).toNatClampNeg) (n := 256) (fun c hc hne => by
    rw [Ld_top h hc] at hne
    rcases hv c with ⟨e, -⟩ | ⟨-, v, v1, v2, e⟩
    · exact absurd e hne
    · rw [Ld_sh h hc]
      rw [e, nI_clamp (by omega)]
      exact ⟨rfl, v2⟩)
  have cl : ∀ c, c < 256 → ∀ b, b < 32 → (!decide (M.1 499 c = -1) && decide ((clA a c).toNatClampNeg = b)) = (decide (0 < b) && decide (clA a c = nI b)) := fun c hc b hb => by
    rw [Ld_top h hc]
    rcases hv c with ⟨e1, e2⟩ | ⟨e1, v, v1, v2, e⟩
    · rw [e1, e2]
      by_cases q : 0 < b
      · have : ¬ nI 0 = nI b := fun z => by have := (nI_eq (by omega) (by omega)).mp z; omega
        simp [q, this]
      · simp [q]
    · rw [e, nI_clamp (by omega), decide_eq_false e1]
      by_cases q : v = b
      · subst q; simp [show 0 < v by omega]
      · have : ¬ nI v = nI b := fun z => q ((nI_eq (by omega) (by omega)).mp z)
        simp [q, this]
  have hb2 : ∀ b, b < 32 → bt (coI M 256) b = exB 256 (fun c => decide (0 < b) && decide (clA a c = nI b)) := fun b hb9 => by
    rw [hb b hb9]
    exact exB_cong (fun c hc => cl c hc b hb9)
  have big : ∀ b, 10 ≤ b → b < 32 → bt (coI M 256) b = false := fun b h1 h2 => by
    rw [hb2 b h2]
    refine exB_f (fun c hc => ?_)
    rcases hv c with ⟨-, e2⟩ | ⟨-, v, v1, v2, e⟩
    · rw [e2, decide_eq_false (show ¬ nI 0 = nI b from fun z => by have := (nI_eq (by omega) (by omega)).mp z; omega), Bool.and_false]
    · rw [e, decide_eq_false (show ¬ nI v = nI b from fun z => by have := (nI_eq (by omega) (by omega)).mp z; omega), Bool.and_false]
  have bits : ∀ i, i < 64 → bl (coI M 256).toInt64 i = (decide (i < 32) && bt (coI M 256) i) := fun i hi => bl_i2l (big 31 (by omega) (by omega)) hi
  have : fb_ct (bl (coI M 256).toInt64) 64 = fb_ct (fun i => decide (i < 32) && bt (coI M 256) i) 64 := fb_ct_cong bits
  rw [this, ct_64 (fun i hi => by
    by_cases q : i < 32
    · rw [big i hi q, Bool.and_false]
    · simp [q]) (by rw [hb2 0 (by omega), exB_f (fun c _ => by simp)]; rfl)]
  refine fb_ct_cong (fun j hj => ?_)
  rw [csz_0, hb2 (j + 1) (by omega), decide_eq_true (show j + 1 < 32 by omega), Bool.true_and]
  refine exB_cong (fun c hc => ?_)
  unfold colSA
  simp [hc]
/-- parts -/
theorem sm_one (k : Nat) (b : Bool) : ∀ m, fb_sm (fun u => if (decide (k = u) && b) = true then 1 else 0) m = if k < m ∧ b = true then 1 else 0
  | 0 => by simp [fb_sm]
  | m + 1 => by
    rw [fb_sm_succ, sm_one k b m]
    cases b
    · simp
    · by_cases h : k = m
      · subst h; simp
      · by_cases h2 : k < m
        · simp [h, h2, show k < m + 1 by omega]
        · simp [h, h2, show ¬ k < m + 1 by omega]
theorem sm_part {n m : Nat} {own : Nat → Nat} {act : Nat → Bool} (ho : ∀ j, j < n → own j < m) : fb_sm (fun u => fb_ct (fun j => decide (own j = u) && act j) n) m = fb_ct act n := by
  induction n with
  | zero =>
    show fb_sm (fun _ => 0) m = 0
    rw [fb_sm_const]; omega
  | succ n ih =>
    have ih := ih (fun j hj => ho j (by omega))
    have e : fb_sm (fun u => fb_ct (fun j => decide (own j = u) && act j) (n + 1)) m = fb_sm (fun u => fb_ct (fun j => decide (own j = u) && act j) n + (if (decide (own n = u) && act n) = true then 1 else 0)) m := fb_sm_cong (fun u _ => fb_ct_succ _ n)
    rw [e, fb_sm_add, ih, fb_ct_succ, sm_one]
    congr 1
    have := ho n (by omega)
    simp [this]
theorem Cmp_cg {S T : Nat → Bool} {g : Bool} {a x : Nat} (ha : a < 256) (h : ∀ y, y < 256 → S y = T y) : Cmp S g a x ↔ Cmp T g a x := ⟨Cmp_cong ha h, Cmp_cong ha (fun y hy => (h y hy).symm)⟩
theorem fr_mr {S T : Nat → Bool} {g : Bool} (h : ∀ y, y < 256 → S y = T y) {y : Nat} (hy : y < 256) : (S y && frB S (fun z x => Cmp S g z x) y) = (T y && mrB T g y) := by
  rw [h y hy]
  congr 1
  rw [Bool.eq_iff_iff, frB_t, mrB_t]
  constructor
  · intro q z hz w
    exact q z hz (by rw [h z (by omega)]; exact w.1) ((Cmp_cg (by omega) h).mpr w.2)
  · intro q z hz w1 w2
    exact q z hz ⟨by rw [← h z (by omega)]; exact w1, (Cmp_cg (by omega) h).mp w2⟩
theorem npt_K {S T : Nat → Bool} (h : ∀ y, y < 256 → S y = T y) : fb_ct (fun y => S y && frB S (fun z x => Cmp S true z x) y) 256 = npt T true 256 := fb_ct_cong (fun y hy => fr_mr h hy)
theorem npt_N {M : Mm} {a : Ab} {W : Nat} (h : Ld M a W) : fb_ct (fun y => (fun _ => true) y && frB (fun _ => true) (fun z x => Cmp (fun d => decide (shF M d = shF M z)) false z x) y) 256 = fb_sm (fun c => npt (colSA a c) false 256) 10 := by
  have h60 := h.1.1.1
  have hopk := h.1.1.2.2.2.2.2.2.2.1
  have hv : ∀ c, ∃ v, v < 10 ∧ clA a c = nI v := fun c => by
    rcases clA_v h60 hopk c with ⟨-, e⟩ | ⟨-, v, -, v2, e⟩
    · exact ⟨0, by omega, e⟩
    · exact ⟨v, v2, e⟩
  rw [← sm_part (n := 256) (m := 10) (own := fun y => (clA a y).toNatClampNeg) (fun j _ => by
    obtain ⟨v, v1, e⟩ := hv j
    rw [e, nI_clamp (by omega)]
    exact v1)]
  refine fb_sm_cong (fun c hc => ?_)
  show _ = fb_ct _ _
  refine fb_ct_cong (fun y hy => ?_)
  obtain ⟨v, v1, e⟩ := hv y
  dsimp only
  rw [e, nI_clamp (by omega), Bool.true_and]
  have cs : colSA a c y = decide (v = c) := by
    show (decide (y < 256) && decide (clA a y = nI c)) = _
    rw [e, decide_eq_true hy, Bool.true_and, Bool.eq_iff_iff]
    simp only [decide_eq_true_eq]
    exact nI_eq (by omega) (by omega)
  rw [cs]
  by_cases q : v = c
  · subst q
    congr 1
    rw [Bool.eq_iff_iff, frB_t, mrB_t]
    have sz : ∀ z, z < 256 → clA a z = nI v → ∀ d, d < 256 → decide (shF M d = shF M z) = colSA a v d := fun z hz ez d hd => by
      rw [Ld_sh h hd, Ld_sh h hz, ez]
      unfold colSA
      rw [decide_eq_true hd, Bool.true_and]
    constructor
    · intro p z hz w
      have ez : clA a z = nI v := by
        have := w.1
        unfold colSA at this
        simp only [Bool.and_eq_true, decide_eq_true_eq] at this
        exact this.2
      exact p z hz rfl ((Cmp_cg (by omega) (sz z (by omega) ez)).mpr w.2)
    · intro p z hz _ w
      have e2 : shF M y = shF M z := of_decide_eq_true (Cmp_S (S := fun d => decide (shF M d = shF M z)) (decide_eq_true rfl) w)
      have ez : clA a z = nI v := by rw [← Ld_sh h (show z < 256 by omega), ← e2, Ld_sh h hy, e]
      refine p z hz ⟨?_, (Cmp_cg (by omega) (sz z (by omega) ez)).mp w⟩
      show (decide (z < 256) && decide (clA a z = nI v)) = true
      rw [ez]
      simp
      omega
  · rw [decide_eq_false q, Bool.false_and, Bool.false_and]
