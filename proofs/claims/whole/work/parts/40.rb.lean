/-! the board's memory but its picture; the picture laid anew -/
def RelP (M : Mm) (a : Ab) (W : Nat) : Prop := RelO M a ∧ RelL M (a_t a) (a_lk a) ∧ RelU M (a_n a) W (a_un a) ∧ RelK M a ∧ RelT M a ∧ RelR M
theorem RelB_P {M : Mm} {a : Ab} {W : Nat} (h : RelB M a W) : RelP M a W := ⟨h.1, h.2.1, h.2.2.1, h.2.2.2.1, h.2.2.2.2.2.1, h.2.2.2.2.2.2⟩
theorem RelK_ag {M N : Mm} {a : Ab} (h : RelK M a) (ho : ∀ x, 454 ≤ x → N.1 x = M.1 x) : RelK N a := fun m hm => by
  have hk := h m hm
  refine ⟨by rw [ho _ (by omega)]; exact hk.1, fun hs => ?_⟩
  obtain ⟨k1, k2, k3, k4⟩ := hk.2 hs
  exact ⟨by rw [ho _ (by omega)]; exact k1, k2, fun j hj => by rw [ho _ (by omega)]; exact k3 j hj, fun c hc => by rw [ho _ (by omega)]; exact k4 c hc⟩
theorem RelR_ag {M N : Mm} (h : RelR M) (h1 : N.1 454 = M.1 454) (h2 : N.1 456 = M.1 456) (h3 : N.1 457 = M.1 457) (h4 : N.1 459 = M.1 459) : RelR N := by
  obtain ⟨⟨S, r1⟩, R, Q, q, r2, r3, r4, r5⟩ := h
  exact ⟨⟨S, by rw [h4]; exact r1⟩, R, Q, q, by rw [h2]; exact r2, by rw [h3]; exact r3, by rw [h1]; exact r4, r5⟩
theorem RelT_ag {M N : Mm} {a : Ab} (h : RelT M a) (ho : ∀ x, x < 7 ∨ 478 ≤ x → x ≠ 0 → x ≠ 5 → N.1 x = M.1 x) (h22 : N.2 = M.2) : RelT N a := by
  obtain ⟨t1, t2, t3, vals, t4, t5, t6, t7⟩ := h
  exact ⟨by rw [ho 1 (by omega) (by omega) (by omega)]; exact t1, t2, fun i hi => by rw [ho 2 (by omega) (by omega) (by omega)]; exact t3 i hi, vals, by rw [ho 3 (by omega) (by omega) (by omega)]; exact t4, by rw [ho 4 (by omega) (by omega) (by omega)]; exact t5, t6, fun x hx => by rw [ho x (by omega) (by omega) (by omega)]; exact t7.1 x hx, by rw [h22]; exact t7.2⟩
theorem RelL_ag {M N : Mm} {t : Nat} {lk : List Lz} (h : RelL M t lk) (ho : ∀ x, 189 ≤ x → x < 204 → N.1 x = M.1 x) : RelL N t lk := by
  obtain ⟨own, en, fa, la, l1, l2, l3⟩ := h
  exact ⟨own, en, fa, la, fun j hj => by rw [ho 189 (by omega) (by omega), ho 190 (by omega) (by omega)]; exact l1 j hj, fun j hj => by rw [ho _ (by omega) (by omega)]; exact l2 j hj, l3⟩
theorem RelU_ag {M N : Mm} {n W : Nat} {un : Nat → Nat} (h : RelU M n W un) (h5 : N.1 5 2 = M.1 5 2) (ho : ∀ i, i < n → N.1 (7 + 3 * i) 7 = M.1 (7 + 3 * i) 7) : RelU N n W un := by
  obtain ⟨ub, w, u1, u2, u3, u4⟩ := h
  exact ⟨ub, w, u1, by rw [h5]; exact u2, fun i hi => by rw [ho i hi]; exact u3 i hi, u4⟩
theorem RelO_ag {M N : Mm} {a : Ab} (h : RelO M a) (ho : ∀ x, x < 187 → N.1 x = M.1 x) : RelO N a := by
  obtain ⟨o1, o2, o3, o4, o5, o6, o7, Cb, o8, o9⟩ := h
  exact ⟨o1, o2, by rw [ho 0 (by omega)]; exact o3, by rw [ho 5 (by omega)]; exact o4, fun i hi b hb => by rw [ho _ (by omega)]; exact o5 i hi b hb, fun i hi => by rw [ho _ (by omega)]; exact o6 i hi, o7, Cb, fun i hi => by rw [ho _ (by omega)]; exact o8 i hi, o9⟩
theorem RelP_ag {M N : Mm} {a : Ab} {W : Nat} (h : RelP M a W) (ho : ∀ x, x < 204 ∨ 454 ≤ x → N.1 x = M.1 x) (h22 : N.2 = M.2) : RelP N a W := by
  obtain ⟨hO, hL, hU, hK, hT, hR⟩ := h
  have hn := hO.1
  exact ⟨RelO_ag hO (fun x hx => ho x (by omega)), RelL_ag hL (fun x h1 h2 => ho x (by omega)), RelU_ag hU (by rw [ho 5 (by omega)]) (fun i hi => by rw [ho _ (by omega)]), RelK_ag hK (fun x hx => ho x (by omega)), RelT_ag hT (fun x h1 _ _ => ho x (by omega)) h22, RelR_ag hR (ho 454 (by omega)) (ho 456 (by omega)) (ho 457 (by omega)) (ho 459 (by omega))⟩
theorem RelS_ag {M N : Mm} {a : Ab} (h : RelS M a) (hn : a_n a ≤ 60) (ho : ∀ x, 204 ≤ x → x < 329 → N.1 x = M.1 x) : RelS N a := by
  obtain ⟨s1, s2, s3, s4⟩ := h
  exact ⟨fun i hi => by rw [ho _ (by omega) (by omega)]; exact s1 i hi, by rw [ho 206 (by omega) (by omega)]; exact s2, by rw [ho 207 (by omega) (by omega)]; exact s3, by rw [ho 208 (by omega) (by omega)]; exact s4⟩
theorem RelB_PS {M : Mm} {a : Ab} {W : Nat} (h : RelP M a W) (hS : RelS M a) : RelB M a W := ⟨h.1, h.2.1, h.2.2.1, h.2.2.2.1, hS, h.2.2.2.2.1, h.2.2.2.2.2⟩
theorem RelB_agx {M N : Mm} {a : Ab} {W : Nat} (h : RelB M a W) (ho : ∀ x, x < 329 ∨ 454 ≤ x → N.1 x = M.1 x) (h22 : N.2 = M.2) : RelB N a W := RelB_PS (RelP_ag (RelB_P h) (fun x hx => ho x (by omega)) h22) (RelS_ag h.2.2.2.2.1 h.1.1 (fun x h1 h2 => ho x (by omega)))
theorem shM_o5 {M : Mm} {b : Nat} {C : Nat → Nat → Bool} {n : Nat} {t sw : Int32} {a : Nat} (h2 : a ≠ b + 2) (h3 : a ≠ b + 3) (h4 : a ≠ b + 4) (h5 : a < b + 6 ∨ b + 125 ≤ a) (hn : n ≤ 60) : (shM M b C n t sw).1 a = M.1 a := by
  unfold shM famL
  rw [wA_n h4, wA_n h3, wA_n h2, fam_out (fun i hi => by omega)]
theorem RelB_sup {M : Mm} {a : Ab} {W : Nat} {C : Nat → Nat → Bool} {n : Nat} {t sw : Int32} (h : RelB M a W) (hn : n ≤ 60) : RelB (shM M 329 C n t sw) a W := RelB_agx h (fun x hx => shM_o5 (by omega) (by omega) (by omega) (by omega) hn) shM_22
theorem RelB_show {M : Mm} {a : Ab} {W : Nat} (h : RelP M a W) {Cb : Nat → Nat → Bool} (hC : ∀ i, i < 60 → M.1 (7 + 3 * i + 1 + 1) = rowsOf (Cb i)) (hCb : ∀ i, i < a_n a → Cb i = a_C a i) : RelB (shM M 204 Cb (a_n a) (nI (a_t a)) (-1)) a W := by
  have ho : ∀ x, x < 204 ∨ 454 ≤ x → (shM M 204 Cb (a_n a) (nI (a_t a)) (-1)).1 x = M.1 x := fun x hx => shM_o5 (by omega) (by omega) (by omega) (by omega) h.1.1
  obtain ⟨o1, o2, o3, o4, o5, o6, -⟩ := id h.1
  have hg : ∀ i, i < a_n a → goB M (-1) i = a_ac a i := fun i hi => goB_m1 (by omega) (o6 i hi)
  obtain ⟨e1, e2⟩ := shTop_eq (t := nI (a_t a)) o5 hCb hg
  have e3 := LSf_eq o5 hCb hg
  refine RelB_PS (RelP_ag h ho shM_22) ⟨fun i hi => ?_, ?_, ?_, ?_⟩
  · rw [shM_L hi, e3]
  · exact (shM_2 (b := 204)).trans e1
  · exact (shM_3 (b := 204)).trans e2
  · refine (shM_4 (b := 204)).trans ?_
    rw [e1]
/-! what depends on the first operations alone -/
theorem LSa_cong {op op2 : Nat → Nat → Int32} {C C2 : Nat → Nat → Bool} {go go2 : Nat → Bool} : ∀ {n : Nat}, (∀ i, i < n → op i = op2 i ∧ C i = C2 i ∧ go i = go2 i) → LSa op C go n = LSa op2 C2 go2 n
  | 0, _ => rfl
  | n + 1, h => by
    have ih := LSa_cong (op := op) (op2 := op2) (C := C) (C2 := C2) (go := go) (go2 := go2) (n := n) (fun i hi => h i (by omega))
    obtain ⟨a, b, c⟩ := h n (by omega)
    have e : ∀ LS : Nat → Nat → Bool, teA op C n LS = teA op2 C2 n LS := fun LS => by
      unfold teA
      rw [a, b]
      split
      · funext j
        by_cases q : j < n
        · rw [(h j (by omega)).1]
        · simp [q]
      · rfl
    rw [LSa_s, LSa_s, ih, c, e]
theorem colA_cong {op op2 : Nat → Nat → Int32} {C C2 : Nat → Nat → Bool} {go go2 : Nat → Bool} {n : Nat} {t : Int32} (h : ∀ i, i < n → op i = op2 i ∧ C i = C2 i ∧ go i = go2 i) : colA op C go n t = colA op2 C2 go2 n t := by
  unfold colA
  rw [LSa_cong h]
  exact ptLy_cong (fun k hk => by
    obtain ⟨a, b, c⟩ := h k hk
    refine ⟨by rw [a], ?_, rfl, by rw [a]⟩
    unfold vnA
    rw [a]) 3
theorem ptK_off {la : Nat → Int32} {vn : Nat → Bool} {LS LS2 : Nat → Nat → Bool} {val : Nat → Int32} {l n : Nat} {T : Nat → Int32} (h0 : ∀ c, LS n c = false) (h : ∀ k, k < n → LS k = LS2 k) : ptK la vn LS val l T (n + 1) = ptK la vn LS2 val l T n := by
  rw [ptK_s, ptK_cong (la2 := la) (vn2 := vn) (LS2 := LS2) (val2 := val) (fun k hk => ⟨rfl, rfl, h k hk, rfl⟩)]
  split
  · funext c
    rw [if_neg (by rw [h0]; decide)]
  · rfl
theorem ptLy_off {la : Nat → Int32} {vn : Nat → Bool} {LS LS2 : Nat → Nat → Bool} {val : Nat → Int32} {n : Nat} {T : Nat → Int32} (h0 : ∀ c, LS n c = false) (h : ∀ k, k < n → LS k = LS2 k) : ∀ l, ptLy la vn LS val (n + 1) T l = ptLy la vn LS2 val n T l
  | 0 => rfl
  | l + 1 => by
    unfold ptLy
    rw [ptLy_off h0 h l, ptK_off h0 h]
/-- the last operation off: as if it weren't there -/
theorem colA_off {op : Nat → Nat → Int32} {C : Nat → Nat → Bool} {go : Nat → Bool} {n : Nat} {t : Int32} (h : go n = false) : colA op C go (n + 1) t = colA op C go n t := by
  unfold colA
  refine ptLy_off (fun c => ?_) (fun k hk => ?_) 3
  · rw [LSa_s, if_neg (by rw [h]; decide), if_pos rfl]
  · rw [LSa_s, if_neg (by rw [h]; decide), if_neg (by omega)]
theorem dfC_sym (f g : Nat → Int32) : dfC f g = dfC g f := fb_ct_cong (fun c _ => by
  congr 1
  rw [Bool.eq_iff_iff]
  simp only [decide_eq_true_eq]
  exact eq_comm)
/-! the leases in force -/
theorem lzL_flt {own en fa la : Nat → Nat} {t k : Nat} : (lzL own en fa la t).filter (fun z => decide (t + k < z.2.2.2)) = lzL own en fa la (t + k) := by
  unfold lzL
  rw [List.filter_map, List.filter_filter]
  congr 1
  refine List.filter_congr (fun j _ => ?_)
  show (decide (t + k < en j) && decide (t < en j)) = decide (t + k < en j)
  by_cases q : t + k < en j
  · rw [decide_eq_true q, decide_eq_true (by omega)]; rfl
  · rw [decide_eq_false q]; rfl
theorem flt_ins {α : Type} (p q : Nat → Bool) (f g : Nat → α) (s : Nat) : ∀ (l : List Nat), l.Nodup → s ∈ l → p s = false → q s = true → (∀ j, j ≠ s → q j = p j ∧ g j = f j) → ((l.filter q).map g).Perm ((l.filter p).map f ++ [g s])
  | [], _, h, _, _, _ => absurd h List.not_mem_nil
  | x :: t, hn, h, hp, hq, ho => by
    obtain ⟨h1, h2⟩ := List.nodup_cons.mp hn
    by_cases e : x = s
    · subst e
      rw [List.filter_cons, if_pos hq, List.filter_cons, if_neg (by rw [hp]; decide), List.map_cons]
      have e1 : t.filter q = t.filter p := List.filter_congr (fun j hj => (ho j (fun z => h1 (z ▸ hj))).1)
      have e2 : (t.filter p).map g = (t.filter p).map f := List.map_congr_left (fun j hj => (ho j (fun z => h1 (z ▸ (List.mem_filter.mp hj).1))).2)
      rw [e1, e2]
      exact (List.perm_append_singleton _ _).symm
    · have hm : s ∈ t := by
        rcases List.mem_cons.mp h with z | z
        · exact absurd z.symm e
        · exact z
      have ih := flt_ins p q f g s t h2 hm hp hq ho
      obtain ⟨a, b⟩ := ho x e
      rw [List.filter_cons, List.filter_cons, a]
      by_cases z : p x = true
      · rw [if_pos z, if_pos z, List.map_cons, List.map_cons, b, List.cons_append]
        exact ih.cons _
      · rw [if_neg z, if_neg z]
        exact ih
theorem low_sp {M : Mm} {t c : Nat} {own en fa la : Nat → Nat} (ht : t < 2 ^ 31) (h1 : ∀ j, j < 6 → M.1 189 j = nI (own j) ∧ M.1 190 j = nI (en j) ∧ own j < 5 ∧ en j < 200000 ∧ fa j < 257 ∧ la j < 257) : ∀ {q : Nat}, q ≤ 6 → (lowF M (fun j => rect (fa j) (la j)) (nI t) c q = -1 ∧ ∀ j, j < q → t < en j → rect (fa j) (la j) c = false) ∨ ∃ j, j < q ∧ t < en j ∧ rect (fa j) (la j) c = true ∧ lowF M (fun j => rect (fa j) (la j)) (nI t) c q = nI (own j) ∧ ∀ i, i < q → t < en i → rect (fa i) (la i) c = true → own j ≤ own i
  | 0, _ => Or.inl ⟨rfl, fun j hj => absurd hj (by omega)⟩
  | q + 1, hq => by
    have ih := low_sp (M := M) (t := t) (c := c) (own := own) (en := en) (fa := fa) (la := la) ht h1 (q := q) (by omega)
    obtain ⟨g1, g2, g3, g4, -⟩ := h1 q (by omega)
    have e : lowF M (fun j => rect (fa j) (la j)) (nI t) c (q + 1) = if inF M (nI t) q = true ∧ rect (fa q) (la q) c = true ∧ (lowF M (fun j => rect (fa j) (la j)) (nI t) c q = -1 ∨ M.1 189 q < lowF M (fun j => rect (fa j) (la j)) (nI t) c q) then M.1 189 q else lowF M (fun j => rect (fa j) (la j)) (nI t) c q := rfl
    rw [e, inF_eq ht g2 g4, g1]
    by_cases z : t < en q ∧ rect (fa q) (la q) c = true
    · rcases ih with ⟨i1, i2⟩ | ⟨j, j1, j2, j3, j4, j5⟩
      · rw [if_pos ⟨decide_eq_true z.1, z.2, Or.inl i1⟩]
        exact Or.inr ⟨q, by omega, z.1, z.2, rfl, fun i hi h2 h3 => by
          by_cases w : i = q
          · subst w; exact Nat.le_refl _
          · rw [i2 i (by omega) h2] at h3; cases h3⟩
      · have hj := (h1 j (by omega)).2.2.1
        rw [j4]
        by_cases w : own q < own j
        · rw [if_pos ⟨decide_eq_true z.1, z.2, Or.inr (nI_lt w (by omega))⟩]
          exact Or.inr ⟨q, by omega, z.1, z.2, rfl, fun i hi h2 h3 => by
            by_cases v : i = q
            · subst v; exact Nat.le_refl _
            · have := j5 i (by omega) h2 h3; omega⟩
        · rw [if_neg (fun y => by
            rcases y.2.2 with y | y
            · exact nI_m1 (by omega) y
            · exact w ((nI_ltI (by omega) (by omega)).mp y))]
          exact Or.inr ⟨j, by omega, j2, j3, rfl, fun i hi h2 h3 => by
            by_cases v : i = q
            · subst v; omega
            · exact j5 i (by omega) h2 h3⟩
    · rw [if_neg (fun y => z ⟨of_decide_eq_true y.1, y.2.1⟩)]
      rcases ih with ⟨i1, i2⟩ | ⟨j, j1, j2, j3, j4, j5⟩
      · refine Or.inl ⟨i1, fun j hj h2 => ?_⟩
        by_cases v : j = q
        · subst v
          cases y : rect (fa j) (la j) c with
          | false => rfl
          | true => exact absurd ⟨h2, y⟩ z
        · exact i2 j (by omega) h2
      · exact Or.inr ⟨j, by omega, j2, j3, j4, fun i hi h2 h3 => by
          by_cases v : i = q
          · subst v; exact absurd ⟨h2, h3⟩ z
          · exact j5 i (by omega) h2 h3⟩
theorem mem_lzL {own en fa la : Nat → Nat} {t : Nat} {z : Lz} : z ∈ lzL own en fa la t ↔ ∃ j, j < 6 ∧ t < en j ∧ z = (own j, fa j, la j, en j) := by
  unfold lzL
  rw [List.mem_map]
  constructor
  · rintro ⟨j, hj, rfl⟩
    obtain ⟨a, b⟩ := List.mem_filter.mp hj
    exact ⟨j, List.mem_range.mp a, of_decide_eq_true b, rfl⟩
  · rintro ⟨j, a, b, rfl⟩
    exact ⟨j, List.mem_filter.mpr ⟨List.mem_range.mpr a, decide_eq_true b⟩, rfl⟩
theorem low_is {M : Mm} {t c : Nat} {own en fa la : Nat → Nat} {lk : List Lz} (ht : t < 2 ^ 31) (h1 : ∀ j, j < 6 → M.1 189 j = nI (own j) ∧ M.1 190 j = nI (en j) ∧ own j < 5 ∧ en j < 200000 ∧ fa j < 257 ∧ la j < 257) (hp : (lzL own en fa la t).Perm lk) : IsHol lk c (lowF M (fun j => rect (fa j) (la j)) (nI t) c 6) := by
  refine IsHol_p hp ?_
  rcases low_sp (c := c) ht h1 (q := 6) (Nat.le_refl _) with ⟨i1, i2⟩ | ⟨j, j1, j2, j3, j4, j5⟩
  · refine Or.inl ⟨i1, fun z hz => ?_⟩
    obtain ⟨j, a, b, rfl⟩ := mem_lzL.mp hz
    exact i2 j a b
  · refine Or.inr ⟨(own j, fa j, la j, en j), mem_lzL.mpr ⟨j, j1, j2, rfl⟩, j3, j4, fun y hy hr => ?_⟩
    obtain ⟨i, a, b, rfl⟩ := mem_lzL.mp hy
    exact j5 i a b hr
/-! the latest active operation, the one undone last -/
theorem lt_eq {M : Mm} {a : Ab} {u : Int32} (hop : ∀ i, i < a_n a → ∀ b, b < 6 → M.1 (7 + 3 * i) b = a_op a i b) (hac : ∀ i, i < a_n a → M.1 (7 + 3 * i) 6 = b2i (a_ac a i)) : ∀ {n : Nat}, n ≤ a_n a → ltF M u n = numI (laA a u n)
  | 0, _ => rfl
  | n + 1, hn => by
    have ih := lt_eq (u := u) hop hac (n := n) (by omega)
    rw [laA_s]
    show (if ¬ M.1 (7 + 3 * n) 6 = 0 ∧ M.1 (7 + 3 * n) 1 = u then nI n else ltF M u n) = _
    rw [hac n (by omega), hop n (by omega) 1 (by omega), ih]
    by_cases q : a_op a n 1 = u ∧ a_ac a n = true
    · rw [if_pos ⟨(b2i_n0 _).mpr q.2, q.1⟩, if_pos q]; rfl
    · rw [if_neg (fun z => q ⟨z.2, (b2i_n0 _).mp z.1⟩), if_neg q]
def luR (ub : Nat → Nat) : Option Nat → Int32 × Int32
  | none => (-1, nI 0)
  | some j => (nI j, nI (ub j))
theorem lu_eq {M : Mm} {a : Ab} {u : Int32} {ub : Nat → Nat} {w : Nat} (hop : ∀ i, i < a_n a → ∀ b, b < 6 → M.1 (7 + 3 * i) b = a_op a i b) (hw : w < 1000) (h3 : ∀ i, i < a_n a → M.1 (7 + 3 * i) 7 = nI (ub i) ∧ ub i ≤ w ∧ (0 < ub i ↔ 0 < a_un a i)) (h4 : ∀ i j, i < a_n a → j < a_n a → 0 < a_un a i → 0 < a_un a j → (ub i < ub j ↔ a_un a i < a_un a j)) : ∀ {n : Nat}, n ≤ a_n a → luF M u n = luR ub (rdA a u n)
  | 0, _ => rfl
  | n + 1, hn => by
    have ih := lu_eq (u := u) hop hw h3 h4 (n := n) (by omega)
    obtain ⟨g1, g2, g3⟩ := h3 n (by omega)
    rw [rdA_s]
    show (if M.1 (7 + 3 * n) 1 = u ∧ (luF M u n).2 < M.1 (7 + 3 * n) 7 then (nI n, M.1 (7 + 3 * n) 7) else luF M u n) = _
    rw [hop n (by omega) 1 (by omega), g1, ih]
    cases hr : rdA a u n with
    | none =>
      by_cases q : a_op a n 1 = u ∧ 0 < a_un a n
      · rw [if_pos ⟨q.1, nI_lt (g3.mpr q.2) (by omega)⟩, if_pos ⟨q.1, q.2, rfl⟩]; rfl
      · rw [if_neg (fun z => q ⟨z.1, g3.mp ((nI_ltI (by omega) (by omega)).mp z.2)⟩), if_neg (fun z => q ⟨z.1, z.2.1⟩)]
    | some j =>
      obtain ⟨j1, j2, j3⟩ := rdA_lt hr
      obtain ⟨k1, k2, k3⟩ := h3 j (by omega)
      by_cases q : a_op a n 1 = u ∧ 0 < a_un a n ∧ a_un a j < a_un a n
      · rw [if_pos ⟨q.1, nI_lt ((h4 j n (by omega) (by omega) j2 q.2.1).mpr q.2.2) (by omega)⟩, if_pos ⟨q.1, q.2.1, decide_eq_true q.2.2⟩]; rfl
      · rw [if_neg (fun z => by
          have y := (nI_ltI (by omega) (by omega)).mp z.2
          have y2 := g3.mp (by omega)
          exact q ⟨z.1, y2, (h4 j n (by omega) (by omega) j2 y2).mp y⟩), if_neg (fun z => q ⟨z.1, z.2.1, of_decide_eq_true z.2.2⟩)]
