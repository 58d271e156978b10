/-! the board's state behind a call -/
theorem RelP_clr {M M2 : Mm} {a : Ab} {W : Nat} (hB : RelB M a W) (h0 : M2.1 0 8 = nI 0) (h51 : M2.1 5 1 = nI 0) (h52 : M2.1 5 2 = M.1 5 2) (h190 : ∀ j, j < 6 → M2.1 190 j = nI 0) (hmk : ∀ m, m < 6 → M2.1 (460 + 3 * m) 0 = nI 0) (hot : ∀ x, x < 204 ∨ 454 ≤ x → x ≠ 0 → x ≠ 5 → x ≠ 190 → (∀ m, m < 6 → x ≠ 460 + 3 * m) → M2.1 x = M.1 x) (hs : M2.2 = M.2) : RelP M2 (clrA a) W := by
  obtain ⟨⟨o1, o2, o3, o4, o5, o6, o7, Cb, o8, o9⟩, ⟨own, en, fa, la, l1, l2, l3⟩, ⟨ub, w, u1, u2, u3, u4⟩, hK, -, hT, hR⟩ := hB
  have vac : ∀ {P : Nat → Prop}, ∀ i, i < a_n (clrA a) → P i := fun i hi => absurd hi (Nat.not_lt_zero i)
  refine ⟨⟨Nat.zero_le _, Nat.zero_le _, h0, h51, vac, vac, vac, Cb, fun i hi => by rw [hot _ (by omega) (by omega) (by omega) (by omega) (fun m hm => by omega)]; exact o8 i hi, vac⟩, ⟨own, fun _ => 0, fa, la, fun j hj => ⟨by rw [hot 189 (by omega) (by omega) (by omega) (by omega) (fun m hm => by omega)]; exact (l1 j hj).1, h190 j hj, (l1 j hj).2.2.1, by show 0 < 200000; omega, (l1 j hj).2.2.2.2⟩, fun j hj => by rw [hot _ (by omega) (by omega) (by omega) (by omega) (fun m hm => by omega)]; exact l2 j hj, ?_⟩, ⟨ub, w, u1, by rw [h52]; exact u2, vac, fun i j hi => absurd hi (Nat.not_lt_zero i)⟩, fun m hm => ⟨hmk m hm, fun h => by cases h⟩, ?_, RelR_ag hR (hot 454 (by omega) (by omega) (by omega) (by omega) (fun m hm => by omega)) (hot 456 (by omega) (by omega) (by omega) (by omega) (fun m hm => by omega)) (hot 457 (by omega) (by omega) (by omega) (by omega) (fun m hm => by omega)) (hot 459 (by omega) (by omega) (by omega) (by omega) (fun m hm => by omega))⟩
  · show (lzL own (fun _ => 0) fa la 0).Perm []
    unfold lzL
    simp
  · exact RelT_ag hT (fun x h1 h2 h3 => hot x (by omega) h2 h3 (by omega) (fun m hm => by omega)) hs
theorem RelP_pas {M M2 : Mm} {a : Ab} {W k : Nat} (hB : RelB M a W) (hk : a_t a + k ≤ 100000) (h0 : M2.1 0 8 = nI (a_t a + k)) (hot : ∀ x, x ≠ 0 → M2.1 x = M.1 x) (hs : M2.2 = M.2) : RelP M2 (pasA a k) W := by
  obtain ⟨⟨o1, o2, o3, o4, o5, o6, o7, Cb, o8, o9⟩, ⟨own, en, fa, la, l1, l2, l3⟩, hU, hK, -, hT, hR⟩ := hB
  refine ⟨⟨o1, hk, h0, by rw [hot 5 (by omega)]; exact o4, fun i hi b hb => by rw [hot _ (by omega)]; exact o5 i hi b hb, fun i hi => by rw [hot _ (by omega)]; exact o6 i hi, fun i hi => opOk_t (o7 i hi) (Nat.le_add_right _ _), Cb, fun i hi => by rw [hot _ (by omega)]; exact o8 i hi, o9⟩, ⟨own, en, fa, la, fun j hj => by rw [hot 189 (by omega), hot 190 (by omega)]; exact l1 j hj, fun j hj => by rw [hot _ (by omega)]; exact l2 j hj, ?_⟩, RelU_ag hU (by rw [hot 5 (by omega)]) (fun i hi => by rw [hot _ (by omega)]), RelK_ag hK (fun x hx => hot x (by omega)), RelT_ag hT (fun x h1 h2 h3 => hot x h2) hs, RelR_ag hR (hot 454 (by omega)) (hot 456 (by omega)) (hot 457 (by omega)) (hot 459 (by omega))⟩
  have := l3.filter (fun z => decide (a_t a + k < z.2.2.2))
  rw [lzL_flt] at this
  exact this
theorem RelP_ug {M M2 : Mm} {a : Ab} {W W2 k v : Nat} {b : Bool} (hB : RelB M a W) (hk : k < a_n a) (h6 : M2.1 (7 + 3 * k) 6 = b2i b) (hb : ∀ c, c < 6 → M2.1 (7 + 3 * k) c = M.1 (7 + 3 * k) c) (h51 : M2.1 5 1 = M.1 5 1) (hot : ∀ x, x ≠ 5 → x ≠ 7 + 3 * k → M2.1 x = M.1 x) (hs : M2.2 = M.2) (hU : RelU M2 (a_n a) W2 (fun i => if i = k then v else a_un a i)) : RelP M2 (unG a k b v) W2 := by
  obtain ⟨⟨o1, o2, o3, o4, o5, o6, o7, Cb, o8, o9⟩, hL, -, hK, -, hT, hR⟩ := hB
  refine ⟨⟨o1, o2, by rw [hot 0 (by omega) (by omega)]; exact o3, by rw [h51]; exact o4, fun i hi c hc => ?_, fun i hi => ?_, o7, Cb, fun i hi => by rw [hot _ (by omega) (by omega)]; exact o8 i hi, o9⟩, RelL_ag hL (fun x h1 h2 => hot x (by omega) (by omega)), hU, RelK_ag hK (fun x hx => hot x (by omega) (by omega)), RelT_ag hT (fun x h1 h2 h3 => hot x h3 (by omega)) hs, RelR_ag hR (hot 454 (by omega) (by omega)) (hot 456 (by omega) (by omega)) (hot 457 (by omega) (by omega)) (hot 459 (by omega) (by omega))⟩
  · by_cases q : i = k
    · subst q; rw [hb c hc]; exact o5 i hi c hc
    · rw [hot _ (by omega) (by omega)]; exact o5 i hi c hc
  · show M2.1 (7 + 3 * i) 6 = b2i (if i = k then b else a_ac a i)
    by_cases q : i = k
    · subst q; rw [if_pos rfl]; exact h6
    · rw [if_neg q, hot _ (by omega) (by omega)]; exact o6 i hi
theorem RelU_un {M M2 : Mm} {n W k v w : Nat} {un ub : Nat → Nat} (hw : w ≤ W) (hk : k < n) (h2 : M2.1 5 2 = nI (w + 1)) (h3 : ∀ i, i < n → M.1 (7 + 3 * i) 7 = nI (ub i) ∧ ub i ≤ w ∧ (0 < ub i ↔ 0 < un i)) (h4 : ∀ i j, i < n → j < n → 0 < un i → 0 < un j → (ub i < ub j ↔ un i < un j)) (hv : ∀ i, i < n → un i < v) (h7 : M2.1 (7 + 3 * k) 7 = nI (w + 1)) (hot : ∀ i, i < n → i ≠ k → M2.1 (7 + 3 * i) 7 = M.1 (7 + 3 * i) 7) : RelU M2 n (W + 1) (fun i => if i = k then v else un i) := by
  refine ⟨fun i => if i = k then w + 1 else ub i, w + 1, by omega, h2, fun i hi => ?_, fun i j hi hj p q => ?_⟩
  · by_cases q : i = k
    · subst q
      dsimp only
      rw [if_pos rfl, if_pos rfl]
      have := hv i hi
      exact ⟨h7, Nat.le_refl _, by omega⟩
    · dsimp only
      rw [if_neg q, if_neg q, hot i hi q]
      obtain ⟨a, b, c⟩ := h3 i hi
      exact ⟨a, by omega, c⟩
  · dsimp only at p q ⊢
    by_cases x : i = k
    · by_cases y : j = k
      · rw [if_pos x, if_pos y, if_pos x, if_pos y]; omega
      · rw [if_pos x, if_neg y, if_pos x, if_neg y]
        have := (h3 j hj).2.1
        have := hv j hj
        omega
    · by_cases y : j = k
      · rw [if_neg x, if_pos y, if_neg x, if_pos y]
        have := (h3 i hi).2.1
        have := hv i hi
        omega
      · rw [if_neg x] at p
        rw [if_neg y] at q
        rw [if_neg x, if_neg y, if_neg x, if_neg y]
        exact h4 i j hi hj p q
theorem RelU_re {M M2 : Mm} {n W k : Nat} {un : Nat → Nat} (h : RelU M n W un) (h2 : M2.1 5 2 = M.1 5 2) (h7 : M2.1 (7 + 3 * k) 7 = nI 0) (hot : ∀ i, i < n → i ≠ k → M2.1 (7 + 3 * i) 7 = M.1 (7 + 3 * i) 7) : RelU M2 n W (fun i => if i = k then 0 else un i) := by
  obtain ⟨ub, w, u1, u2, u3, u4⟩ := h
  refine ⟨fun i => if i = k then 0 else ub i, w, u1, by rw [h2]; exact u2, fun i hi => ?_, fun i j hi hj p q => ?_⟩
  · by_cases q : i = k
    · subst q
      dsimp only
      rw [if_pos rfl, if_pos rfl]
      exact ⟨h7, Nat.zero_le _, Iff.rfl⟩
    · dsimp only
      rw [if_neg q, if_neg q, hot i hi q]
      exact u3 i hi
  · dsimp only at p q ⊢
    by_cases x : i = k
    · rw [if_pos x] at p; omega
    · by_cases y : j = k
      · rw [if_pos y] at q; omega
      · rw [if_neg x] at p
        rw [if_neg y] at q
        rw [if_neg x, if_neg y, if_neg x, if_neg y]
        exact u4 i j hi hj p q
theorem RelU_W {M : Mm} {n W W2 : Nat} {un : Nat → Nat} (h : RelU M n W un) (hw : W ≤ W2) : RelU M n W2 un := by
  obtain ⟨ub, w, u1, u2⟩ := h
  exact ⟨ub, w, by omega, u2⟩
theorem RelB_W {M : Mm} {a : Ab} {W W2 : Nat} (h : RelB M a W) (hw : W ≤ W2) : RelB M a W2 := ⟨h.1, h.2.1, RelU_W h.2.2.1 hw, h.2.2.2⟩
theorem RelB_mk {M M2 : Mm} {a : Ab} {W m : Nat} (hB : RelB M a W) (hm : m < 6) (h0 : M2.1 (460 + 3 * m) 0 = nI 1) (h1 : M2.1 (460 + 3 * m) 1 = nI (a_n a)) (h2 : ∀ j, j < a_n a → M2.1 (460 + 3 * m + 1) j = M.1 (7 + 3 * j) 6) (h3 : M2.1 (460 + 3 * m + 2) = M.1 207) (hot : ∀ x, x ≠ 460 + 3 * m → x ≠ 460 + 3 * m + 1 → x ≠ 460 + 3 * m + 2 → M2.1 x = M.1 x) (hs : M2.2 = M.2) : RelB M2 (mkA a m) W := by
  obtain ⟨hO, hL, hU, hK, hS, hT, hR⟩ := hB
  have hn := hO.1
  refine ⟨RelO_ag hO (fun x hx => hot x (by omega) (by omega) (by omega)), RelL_ag hL (fun x h1 h2 => hot x (by omega) (by omega) (by omega)), RelU_ag hU (by rw [hot 5 (by omega) (by omega) (by omega)]) (fun i hi => by have hi : i < a_n a := hi; rw [hot _ (by omega) (by omega) (by omega)]), fun j hj => ?_, RelS_ag hS hn (fun x h1 h2 => hot x (by omega) (by omega) (by omega)), RelT_ag hT (fun x h1 h2 h3 => hot x (by omega) (by omega) (by omega)) hs, RelR_ag hR (hot 454 (by omega) (by omega) (by omega)) (hot 456 (by omega) (by omega) (by omega)) (hot 457 (by omega) (by omega) (by omega)) (hot 459 (by omega) (by omega) (by omega))⟩
  by_cases q : j = m
  · subst q
    have e : a_mk (mkA a j) j = (true, a_n a, a_ac a, a_t a) := if_pos rfl
    rw [e]
    refine ⟨h0, fun _ => ⟨h1, Nat.le_refl _, fun i hi => ?_, fun c hc => ?_⟩⟩
    · rw [h2 i hi]; exact hO.2.2.2.2.2.1 i hi
    · rw [h3]; exact congrFun hS.2.2.1 c
  · have e : a_mk (mkA a m) j = a_mk a j := if_neg q
    rw [e, hot _ (by omega) (by omega) (by omega), hot _ (by omega) (by omega) (by omega), hot _ (by omega) (by omega) (by omega)]
    exact hK j hj
theorem RelP_rw {M M2 : Mm} {a : Ab} {W m : Nat} (hB : RelB M a W) (hm : m < 6) (hs9 : (a_mk a m).1 = true) (h51 : M2.1 5 1 = nI (a_mk a m).2.1) (h52 : M2.1 5 2 = M.1 5 2) (ho6 : ∀ i, i < (a_mk a m).2.1 → M2.1 (7 + 3 * i) 6 = M.1 (460 + 3 * m + 1) i) (ho7 : ∀ i, i < (a_mk a m).2.1 → M2.1 (7 + 3 * i) 7 = nI 0) (hob : ∀ i, i < (a_mk a m).2.1 → ∀ b, b < 6 → M2.1 (7 + 3 * i) b = M.1 (7 + 3 * i) b) (hk0 : ∀ j, j < 6 → M2.1 (460 + 3 * j) 0 = if nI (a_mk a m).2.1 < M.1 (460 + 3 * j) 1 then nI 0 else M.1 (460 + 3 * j) 0) (hk1 : ∀ j, j < 6 → M2.1 (460 + 3 * j) 1 = M.1 (460 + 3 * j) 1) (hot : ∀ x, x < 204 ∨ 454 ≤ x → x ≠ 5 → (∀ i, i < 60 → x ≠ 7 + 3 * i) → (∀ j, j < 6 → x ≠ 460 + 3 * j) → M2.1 x = M.1 x) (hs : M2.2 = M.2) : RelP M2 (rwA a m) W := by
  obtain ⟨⟨o1, o2, o3, o4, o5, o6, o7, Cb, o8, o9⟩, hL, ⟨ub, w, u1, u2, u3, u4⟩, hK, -, hT, hR⟩ := hB
  obtain ⟨k1, k2, k3, k4⟩ := (hK m hm).2 hs9
  have lt : ∀ {i}, i < (a_mk a m).2.1 → i < a_n a := fun h => Nat.lt_of_lt_of_le h k2
  refine ⟨⟨Nat.le_trans k2 o1, o2, by rw [hot 0 (by omega) (by omega) (fun i hi => by omega) (fun j hj => by omega)]; exact o3, h51, fun i hi b hb => by rw [hob i hi b hb]; exact o5 i (lt hi) b hb, fun i hi => by rw [ho6 i hi]; exact k3 i hi, fun i hi => o7 i (lt hi), Cb, fun i hi => by rw [hot _ (by omega) (by omega) (fun i hi => by omega) (fun j hj => by omega)]; exact o8 i hi, fun i hi => o9 i (lt hi)⟩, RelL_ag hL (fun x h1 h2 => hot x (by omega) (by omega) (fun i hi => by omega) (fun j hj => by omega)), ⟨fun _ => 0, w, u1, by rw [h52]; exact u2, fun i hi => ⟨ho7 i hi, Nat.zero_le _, Iff.rfl⟩, fun i j _ _ h => absurd h (Nat.lt_irrefl 0)⟩, fun j hj => ?_, RelT_ag hT (fun x h1 h2 h3 => hot x (by omega) h3 (fun i hi => by omega) (fun j hj => by omega)) hs, RelR_ag hR (hot 454 (by omega) (by omega) (fun i hi => by omega) (fun j hj => by omega)) (hot 456 (by omega) (by omega) (fun i hi => by omega) (fun j hj => by omega)) (hot 457 (by omega) (by omega) (fun i hi => by omega) (fun j hj => by omega)) (hot 459 (by omega) (by omega) (fun i hi => by omega) (fun j hj => by omega))⟩
  have hk := hK j hj
  show M2.1 (460 + 3 * j) 0 = b2i ((a_mk a j).1 && decide ((a_mk a j).2.1 ≤ (a_mk a m).2.1)) ∧ (((a_mk a j).1 && decide ((a_mk a j).2.1 ≤ (a_mk a m).2.1)) = true → _)
  constructor
  · rw [hk0 j hj]
    cases e : (a_mk a j).1 with
    | false =>
      rw [hk.1, e]
      split <;> rfl
    | true =>
      obtain ⟨q1, q2, q3, q4⟩ := hk.2 e
      rw [q1, hk.1, e]
      by_cases z : (a_mk a j).2.1 ≤ (a_mk a m).2.1
      · rw [if_neg (nI_nlt z (by omega)), decide_eq_true z]; rfl
      · rw [if_pos (nI_lt (by omega) (by omega)), decide_eq_false z]; rfl
  · intro h
    rw [Bool.and_eq_true, decide_eq_true_eq] at h
    obtain ⟨q1, q2, q3, q4⟩ := hk.2 h.1
    exact ⟨by rw [hk1 j hj]; exact q1, h.2, fun i hi => by rw [hot _ (by omega) (by omega) (fun i hi => by omega) (fun j hj => by omega)]; exact q3 i hi, fun c hc => by rw [hot _ (by omega) (by omega) (fun i hi => by omega) (fun j hj => by omega)]; exact q4 c hc⟩
theorem RelP_add {M M2 : Mm} {a : Ab} {W u ln : Nat} {f : Nat → Int32} {S : Nat → Bool} (hB : RelB M a W) (h60 : a_n a < 60) (hf : opOk (a_t a) f) (h08 : M2.1 0 8 = M.1 0 8) (h51 : M2.1 5 1 = nI (a_n a + 1)) (h52 : M2.1 5 2 = M.1 5 2) (hob : ∀ i, i < a_n a → ∀ b, b < 7 → M2.1 (7 + 3 * i) b = M.1 (7 + 3 * i) b) (ho7 : ∀ i, i < a_n a → M2.1 (7 + 3 * i) 7 = if M.1 (7 + 3 * i) 1 = nI u then nI 0 else M.1 (7 + 3 * i) 7) (hn : ∀ b, b < 6 → M2.1 (7 + 3 * a_n a) b = f b) (hn6 : M2.1 (7 + 3 * a_n a) 6 = nI 1) (hn7 : M2.1 (7 + 3 * a_n a) 7 = nI 0) (hc : ∀ i, i < 60 → i ≠ a_n a → M2.1 (7 + 3 * i + 1 + 1) = M.1 (7 + 3 * i + 1 + 1)) (hcn : M2.1 (7 + 3 * a_n a + 1 + 1) = rowsOf S) (hot : ∀ x, 189 ≤ x ∧ x < 204 ∨ 460 ≤ x → M2.1 x = M.1 x) (hT : RelT M2 (addA a f u S ln)) (hR : RelR M2) : RelP M2 (addA a f u S ln) W := by
  obtain ⟨⟨o1, o2, o3, o4, o5, o6, o7, Cb, o8, o9⟩, hL, ⟨ub, w, u1, u2, u3, u4⟩, hK, -, -, -⟩ := hB
  have ns : ∀ i, i < a_n a + 1 → i ≠ a_n a → i < a_n a := fun i h h2 => by omega
  refine ⟨⟨h60, o2, by rw [h08]; exact o3, h51, fun i hi b hb => ?_, fun i hi => ?_, fun i hi => ?_, fun i => if i = a_n a then S else Cb i, fun i hi => ?_, fun i hi => ?_⟩, RelL_ag hL (fun x h1 h2 => hot x (by omega)), ⟨fun i => if i = a_n a then 0 else if a_op a i 1 = nI u then 0 else ub i, w, u1, by rw [h52]; exact u2, fun i hi => ?_, fun i j hi hj p q => ?_⟩, fun m hm => ?_, hT, hR⟩
  · have hi : i < a_n a + 1 := hi
    show _ = (if i = a_n a then f else a_op a i) b
    by_cases q : i = a_n a
    · rw [if_pos q, q]; exact hn b hb
    · rw [if_neg q, hob i (ns i hi q) b (by omega)]; exact o5 i (ns i hi q) b hb
  · have hi : i < a_n a + 1 := hi
    show _ = b2i (if i = a_n a then true else a_ac a i)
    by_cases q : i = a_n a
    · rw [if_pos q, q]; exact hn6
    · rw [if_neg q, hob i (ns i hi q) 6 (by omega)]; exact o6 i (ns i hi q)
  · have hi : i < a_n a + 1 := hi
    show opOk (a_t a) (if i = a_n a then f else a_op a i)
    by_cases q : i = a_n a
    · rw [if_pos q]; exact hf
    · rw [if_neg q]; exact o7 i (ns i hi q)
  · dsimp only
    by_cases q : i = a_n a
    · rw [if_pos q, q]; exact hcn
    · rw [if_neg q, hc i hi q]; exact o8 i hi
  · have hi : i < a_n a + 1 := hi
    show (if i = a_n a then S else Cb i) = (if i = a_n a then S else a_C a i)
    by_cases q : i = a_n a
    · rw [if_pos q, if_pos q]
    · rw [if_neg q, if_neg q]; exact o9 i (ns i hi q)
  · have hi : i < a_n a + 1 := hi
    show _ = nI (if i = a_n a then 0 else if a_op a i 1 = nI u then 0 else ub i) ∧ (if i = a_n a then 0 else if a_op a i 1 = nI u then 0 else ub i) ≤ w ∧ (0 < (if i = a_n a then 0 else if a_op a i 1 = nI u then 0 else ub i) ↔ 0 < (if i = a_n a then 0 else if a_op a i 1 = nI u then 0 else a_un a i))
    by_cases q : i = a_n a
    · rw [if_pos q, if_pos q, q]; exact ⟨hn7, Nat.zero_le _, Iff.rfl⟩
    · rw [if_neg q, if_neg q, ho7 i (ns i hi q), o5 i (ns i hi q) 1 (by omega)]
      by_cases z : a_op a i 1 = nI u
      · rw [if_pos z, if_pos z, if_pos z]; exact ⟨rfl, Nat.zero_le _, Iff.rfl⟩
      · rw [if_neg z, if_neg z, if_neg z]; exact u3 i (ns i hi q)
  · have p : 0 < (if i = a_n a then 0 else if a_op a i 1 = nI u then 0 else a_un a i) := p
    have q : 0 < (if j = a_n a then 0 else if a_op a j 1 = nI u then 0 else a_un a j) := q
    show (if i = a_n a then 0 else if a_op a i 1 = nI u then 0 else ub i) < (if j = a_n a then 0 else if a_op a j 1 = nI u then 0 else ub j) ↔ (if i = a_n a then 0 else if a_op a i 1 = nI u then 0 else a_un a i) < (if j = a_n a then 0 else if a_op a j 1 = nI u then 0 else a_un a j)
    have hi : i < a_n a + 1 := hi
    have hj : j < a_n a + 1 := hj
    by_cases x : i = a_n a
    · rw [if_pos x] at p; omega
    · by_cases y : j = a_n a
      · rw [if_pos y] at q; omega
      · rw [if_neg x] at p
        rw [if_neg y] at q
        by_cases x2 : a_op a i 1 = nI u
        · rw [if_pos x2] at p; omega
        · by_cases y2 : a_op a j 1 = nI u
          · rw [if_pos y2] at q; omega
          · rw [if_neg x2] at p
            rw [if_neg y2] at q
            rw [if_neg x, if_neg y, if_neg x2, if_neg y2, if_neg x, if_neg y, if_neg x2, if_neg y2]
            exact u4 i j (ns i hi x) (ns j hj y) p q
  · have hk := hK m hm
    refine ⟨by rw [hot _ (by omega)]; exact hk.1, fun h => ?_⟩
    obtain ⟨k1, k2, k3, k4⟩ := hk.2 h
    refine ⟨by rw [hot _ (by omega)]; exact k1, Nat.le_succ_of_le k2, fun j hj => by rw [hot _ (by omega)]; exact k3 j hj, fun c hc => ?_⟩
    rw [hot _ (by omega), k4 c hc]
    refine congrFun (colA_cong (fun i hi => ?_)) c
    have hi : i < (a_mk a m).2.1 := hi
    exact ⟨(if_neg (by omega)).symm, (if_neg (by omega)).symm, rfl⟩
theorem RelL_add {M M2 : Mm} {t u f g k s : Nat} {lk : List Lz} {own en fa la : Nat → Nat} (h1 : ∀ j, j < 6 → M.1 189 j = nI (own j) ∧ M.1 190 j = nI (en j) ∧ own j < 5 ∧ en j < 200000 ∧ fa j < 257 ∧ la j < 257) (h2 : ∀ j, j < 6 → M.1 (191 + 2 * j + 1) = rowsOf (rect (fa j) (la j))) (hp : (lzL own en fa la t).Perm lk) (hs : s < 6) (hfr : en s ≤ t) (ht : t ≤ 100000) (hu : u < 5) (hf : f < 256) (hg : g < 256) (hk1 : 1 ≤ k) (hk : k ≤ 999) (m1 : M2.1 189 = upd (M.1 189) s (nI u)) (m2 : M2.1 190 = upd (M.1 190) s (nI (t + k))) (m3 : M2.1 (191 + 2 * s + 1) = rowsOf (rect f g)) (m4 : ∀ j, j < 6 → j ≠ s → M2.1 (191 + 2 * j + 1) = M.1 (191 + 2 * j + 1)) : (∀ j, j < 6 → M2.1 189 j = nI (if j = s then u else own j) ∧ M2.1 190 j = nI (if j = s then t + k else en j) ∧ (if j = s then u else own j) < 5 ∧ (if j = s then t + k else en j) < 200000 ∧ (if j = s then f else fa j) < 257 ∧ (if j = s then g else la j) < 257) ∧ (∀ j, j < 6 → M2.1 (191 + 2 * j + 1) = rowsOf (rect (if j = s then f else fa j) (if j = s then g else la j))) ∧ (lzL (fun j => if j = s then u else own j) (fun j => if j = s then t + k else en j) (fun j => if j = s then f else fa j) (fun j => if j = s then g else la j) t).Perm (lk ++ [(u, f, g, t + k)]) := by
  refine ⟨fun j hj => ?_, fun j hj => ?_, ?_⟩
  · rw [m1, m2]
    by_cases q : j = s
    · rw [if_pos q, if_pos q, if_pos q, if_pos q, q]
      exact ⟨by simp [upd], by simp [upd], hu, by omega, by omega, by omega⟩
    · rw [if_neg q, if_neg q, if_neg q, if_neg q, upd_o q, upd_o q]
      exact h1 j hj
  · by_cases q : j = s
    · rw [if_pos q, if_pos q, q]; exact m3
    · rw [if_neg q, if_neg q, m4 j hj q]; exact h2 j hj
  · have := flt_ins (fun j => decide (t < en j)) (fun j => decide (t < if j = s then t + k else en j)) (fun j => (own j, fa j, la j, en j)) (fun j => (if j = s then u else own j, if j = s then f else fa j, if j = s then g else la j, if j = s then t + k else en j)) s (List.range 6) List.nodup_range (List.mem_range.mpr hs) (decide_eq_false (by omega)) (by rw [if_pos rfl]; exact decide_eq_true (by omega)) (fun j hj => by rw [if_neg hj, if_neg hj, if_neg hj, if_neg hj]; exact ⟨rfl, rfl⟩)
    rw [if_pos rfl, if_pos rfl, if_pos rfl, if_pos rfl] at this
    exact this.trans (List.Perm.append_right _ hp)
