/-! board and reference, call by call -/
def gz (a : Ab) (g : Mm) : Ab := (a_n a, a_t a, a_op a, a_ac a, a_C a, a_un a, a_lk a, a_mk a, a_ln a, a_cd a, g)
theorem RelB_gz {M : Mm} {a : Ab} {W : Nat} (h : RelB M a W) : RelB M (gz a M) W := by
  obtain ⟨hO, hL, hU, hK, hS, ⟨t1, t2, t3, vals, t4, t5, t6, -⟩, hR⟩ := h
  exact ⟨hO, hL, hU, hK, hS, ⟨t1, t2, t3, vals, t4, t5, t6, fun x _ => rfl, rfl⟩, hR⟩
theorem RelB_gx {M : Mm} {a : Ab} {W : Nat} (h : RelB M a W) : RelG M a := by
  obtain ⟨-, -, -, -, -, ⟨-, -, -, vals, -, -, -, t7⟩, -⟩ := h
  exact t7
theorem RelB_md {M N : Mm} {a : Ab} {W : Nat} (h : RelB M a W) (h1 : ∀ x, x < 478 → N.1 x = M.1 x) : RelB N (gz a N) W := by
  obtain ⟨hO, hL, hU, hK, hS, ⟨t1, t2, t3, vals, t4, t5, t6, -⟩, hR⟩ := h
  have hn := hO.1
  refine ⟨RelO_ag hO (fun x hx => h1 x (by omega)), RelL_ag hL (fun x ha hb => h1 x (by omega)), RelU_ag hU (by rw [h1 5 (by omega)]) (fun i hi => by have hi : i < a_n a := hi; rw [h1 _ (by omega)]), fun m hm => ?_, RelS_ag hS hn (fun x ha hb => h1 x (by omega)), ⟨by rw [h1 1 (by omega)]; exact t1, t2, fun i hi => by rw [h1 2 (by omega)]; exact t3 i hi, vals, by rw [h1 3 (by omega)]; exact t4, by rw [h1 4 (by omega)]; exact t5, t6, fun x _ => rfl, rfl⟩, RelR_ag hR (h1 454 (by omega)) (h1 456 (by omega)) (h1 457 (by omega)) (h1 459 (by omega))⟩
  have hk := hK m hm
  refine ⟨by rw [h1 _ (by omega)]; exact hk.1, fun hs => ?_⟩
  obtain ⟨k1, k2, k3, k4⟩ := hk.2 hs
  exact ⟨by rw [h1 _ (by omega)]; exact k1, k2, fun j hj => by rw [h1 _ (by omega)]; exact k3 j hj, fun c hc => by rw [h1 _ (by omega)]; exact k4 c hc⟩
theorem RelB_un {M : Mm} {a : Ab} {W k v v2 : Nat} (h : RelB M (gz (unG a k false v) M) W) (hv : ∀ i, i < a_n a → a_un a i < v) (hv2 : ∀ i, i < a_n a → a_un a i < v2) : RelB M (gz (unG a k false v2) M) W := by
  obtain ⟨hO, hL, ⟨ub, w, u1, u2, u3, u4⟩, hK, hS, hT, hR⟩ := h
  refine ⟨hO, hL, ⟨ub, w, u1, u2, fun i hi => ?_, fun i j hi hj => ?_⟩, hK, hS, hT, hR⟩
  · have hi : i < a_n a := hi
    obtain ⟨p1, p2, p3⟩ := u3 i hi
    refine ⟨p1, p2, ?_⟩
    have p3 : 0 < ub i ↔ 0 < (if i = k then v else a_un a i) := p3
    show 0 < ub i ↔ 0 < (if i = k then v2 else a_un a i)
    have a1 := hv i hi
    have a2 := hv2 i hi
    by_cases e : i = k
    · rw [if_pos e] at p3 ⊢; omega
    · rw [if_neg e] at p3 ⊢; exact p3
  · have hi : i < a_n a := hi
    have hj : j < a_n a := hj
    have q := u4 i j hi hj
    have q : 0 < (if i = k then v else a_un a i) → 0 < (if j = k then v else a_un a j) → (ub i < ub j ↔ (if i = k then v else a_un a i) < (if j = k then v else a_un a j)) := q
    show 0 < (if i = k then v2 else a_un a i) → 0 < (if j = k then v2 else a_un a j) → (ub i < ub j ↔ (if i = k then v2 else a_un a i) < (if j = k then v2 else a_un a j))
    have a1 := hv i hi
    have a2 := hv2 i hi
    have b1 := hv j hj
    have b2 := hv2 j hj
    by_cases e : i = k
    · by_cases f : j = k
      · rw [if_pos e, if_pos f] at q ⊢; intro _ _; have := q (by omega) (by omega); omega
      · rw [if_pos e, if_neg f] at q ⊢; intro _ g; have := q (by omega) g; omega
    · by_cases f : j = k
      · rw [if_neg e, if_pos f] at q ⊢; intro g _; have := q g (by omega); omega
      · rw [if_neg e, if_neg f] at q ⊢; exact q
theorem RelM_ou {M M1 : Mm} {a a1 : Ab} {W : Nat} {v : Int32} (hM : RelM M a W) (hG : RelG M1 a1) (hg : a_g a1 = M) : RelM (ouM M1 v) a W := by
  obtain ⟨g1, g2⟩ := hG
  rw [hg] at g1 g2
  refine RelM_ag hM (fun x h1 h2 => g1 x (by omega)) (fun b _ => by show M1.1 478 b = _; rw [g1 478 (by omega)]) ?_ ?_ ?_
  · show (wL M1 504 _).2 487 = _; rw [wL_n (by omega), g2]
  · show (wL M1 504 _).2 494 = _; rw [wL_n (by omega), g2]
  · obtain ⟨L, hL⟩ := hM.2.2.2.2
    exact ⟨L, by show (wL M1 504 _).2 497 = _; rw [wL_n (by omega), g2]; exact hL⟩
theorem RelM_th {M M1 : Mm} {a : Ab} {W : Nat} (hM : RelM M a W) (hG : RelG M1 a) (hg : a_g a = M) : RelM M1 a W := by
  obtain ⟨g1, g2⟩ := hG
  rw [hg] at g1 g2
  exact RelM_ag hM (fun x h1 h2 => g1 x (by omega)) (fun b _ => by rw [g1 478 (by omega)]) (by rw [g2]) (by rw [g2]) (by rw [g2]; exact hM.2.2.2.2)
/-- the memory means one state, on both sides -/
def INV (M : Mm) (W : Nat) : Prop := ∃ a : Ab, RelB M a W ∧ RelM M a W
/-- a call of both: they throw alike, and answer alike -/
def PAIR (l : Launch) (E : Ee) (yw : MethodName) (ww : List Cond) (ym : MethodName) (wm : List Cond) (rmm : Room) (M : Mm) (xs : List Value) (W : Nat) : Prop :=
  ∃ (k : Nat) (P : Int32 → Prop) (Wp : Int32 → Mm → Prop), k < 4 ∧ (∀ r r', P r → P r' → r = r') ∧ CtW l E yw ww RW M (.ref (E.2.2 0) :: (xs ++ [.ref (E.2.2 504)])) Wp ∧ ∀ r1 M1, Wp r1 M1 → r1 = nI k ∧ (k = 0 → ∃ v, M1.2 504 0 = v.toInt64 ∧ P v) ∧ ∃ Mp : Int32 → Mm → Prop, CtI l E ym wm rmm M1 (.ref (E.2.2 478) :: xs) 0 0 Mp ∧ ∀ r M2, Mp r M2 → INV M2 (W + 1) ∧ M2.2 504 = M1.2 504 ∧ M2.1 478 0 = nI k ∧ (k = 0 → P r)
theorem pz_0 {l : Launch} {E : Ee} {yw : MethodName} {ww : List Cond} {ym : MethodName} {wm : List Cond} {rmm : Room} {M : Mm} {xs : List Value} {W W1 : Nat} {a a1 : Ab} {P : Int32 → Prop} {Rm : Mm → Prop} (hM : RelM M a W) (hu : ∀ r r', P r → P r' → r = r') (hg : a_g a1 = M) (hw : CtW l E yw ww RW M (.ref (E.2.2 0) :: (xs ++ [.ref (E.2.2 504)])) (fun r M2 => r = nI 0 ∧ ∃ v M1, (P v ∧ RelB M1 a1 W1) ∧ M2 = ouM M1 v)) (hm : ∀ N, RelM N a W → CtI l E ym wm rmm N (.ref (E.2.2 478) :: xs) 0 0 (fun r M2 => P r ∧ Rm M2 ∧ Pub N M2 0)) (hr : ∀ M2, Rm M2 → ∃ a2, RelM M2 a2 (W + 1) ∧ ∀ N, RelB N (gz a1 N) W1 → RelB N (gz a2 N) (W + 1)) : PAIR l E yw ww ym wm rmm M xs W := by
  refine ⟨0, P, _, by omega, hu, hw, fun r1 M1' h => ?_⟩
  obtain ⟨e1, v, M1, ⟨hP, hB1⟩, e2⟩ := h
  subst e2
  refine ⟨e1, fun _ => ⟨v, ?_, hP⟩, _, hm _ (RelM_ou hM (RelB_gx hB1) hg), fun r M2 h => ?_⟩
  · show (wL M1 504 _).2 504 0 = _
    rw [wL_s]
    simp [vp_updL]
  · obtain ⟨hPr, hRm, p1, p2, p3⟩ := h
    obtain ⟨a2, h2, h3⟩ := hr M2 hRm
    exact ⟨⟨gz a2 M2, h3 M2 (RelB_md hB1 (fun x hx => p1 x hx)), h2⟩, p2, p3, fun _ => hPr⟩
theorem pz_t {l : Launch} {E : Ee} {yw : MethodName} {ww : List Cond} {ym : MethodName} {wm : List Cond} {rmm : Room} {M : Mm} {xs : List Value} {W k : Nat} {a : Ab} (hk : 0 < k ∧ k < 4) (hM : RelM M a W) (hg : a_g a = M) (hw : CtW l E yw ww RW M (.ref (E.2.2 0) :: (xs ++ [.ref (E.2.2 504)])) (fun r M2 => r = nI k ∧ RelB M2 a W)) (hm : ∀ N, RelM N a W → CtI l E ym wm rmm N (.ref (E.2.2 478) :: xs) 0 0 (fun r M2 => r = nI 0 ∧ RelM M2 a W ∧ Pub N M2 k)) : PAIR l E yw ww ym wm rmm M xs W := by
  refine ⟨k, fun _ => False, _, hk.2, fun _ _ h => h.elim, hw, fun r1 M1 h => ?_⟩
  obtain ⟨e1, hB1⟩ := h
  refine ⟨e1, fun h0 => absurd h0 (by omega), _, hm _ (RelM_th hM (RelB_gx hB1) hg), fun r M2 h => ?_⟩
  obtain ⟨-, h2, p1, p2, p3⟩ := h
  exact ⟨⟨gz a M2, RelB_W (RelB_md hB1 (fun x hx => p1 x hx)) (by omega), RelM_W h2 (by omega)⟩, p2, p3, fun h0 => absurd h0 (by omega)⟩
theorem eq_u {v : Int32} : ∀ r r' : Int32, r = v → r' = v → r = r' := fun _ _ h1 h2 => h1.trans h2.symm
theorem hol_u {lk : List Lz} {c : Nat} (h5 : ∀ z ∈ lk, z.1 < 5) : ∀ r r' : Int32, IsHol lk c r → IsHol lk c r' → r = r' := by
  intro r r' h1 h2
  rcases h1 with ⟨e1, a1⟩ | ⟨z1, m1, c1, e1, l1⟩
  · rcases h2 with ⟨e2, a2⟩ | ⟨z2, m2, c2, e2, l2⟩
    · rw [e1, e2]
    · rw [a1 z2 m2] at c2; cases c2
  · rcases h2 with ⟨e2, a2⟩ | ⟨z2, m2, c2, e2, l2⟩
    · rw [a2 z1 m1] at c1; cases c1
    · have h3 := l1 z2 m2 c2
      have h4 := l2 z1 m1 c1
      rw [e1, e2, show z1.1 = z2.1 by omega]
theorem wi_op {x : Int32} {n : Nat} (hn : n ≤ 60) (h : wiB x (nI 0) (nI n - nI 1) = true) : ∃ k, k < n ∧ x = nI k := by
  cases n with
  | zero =>
    exfalso
    unfold wiB at h
    rw [Bool.and_eq_true, decide_eq_true_eq, decide_eq_true_eq, Int32.le_iff_toInt_le, Int32.le_iff_toInt_le] at h
    have e1 : (nI 0).toInt = 0 := by decide
    have e2 : (nI 0 - nI 1).toInt = -1 := by decide
    omega
  | succ m =>
    rw [nI_pred1] at h
    obtain ⟨c, -, h2, h3⟩ := wi_ex (by omega) (by omega) h
    exact ⟨c, by omega, h3⟩
theorem wi_2 {x : Int32} {lo hi : Nat} (h : wiB x (nI lo) (nI hi) = true) : nI lo ≤ x ∧ x ≤ nI hi := by
  unfold wiB at h
  rw [Bool.and_eq_true, decide_eq_true_eq, decide_eq_true_eq] at h
  exact h
set_option maxRecDepth 100000 in
theorem p_pass {l : Launch} {E : Ee} {M : Mm} {W : Nat} (hst : l.stackTraces = false) (hI : INV M W) (hWW : W < 1000) (x1 : Int32) : PAIR l E yL_pass (.codeWith yL_pass cL_pass 4 (some .int) wh_pass :: gl) yX9_pass (.code yX9_pass cX9_pass 2 (some .int) :: gl) ({ frames := 1, cells := 0, slots := 0, locals := 23 } : Room) M [.int x1] W := by
  obtain ⟨a0, hB0, hM0⟩ := hI
  have hB : RelB M (gz a0 M) W := RelB_gz hB0
  have hM : RelM M (gz a0 M) W := hM0
  have hg : a_g (gz a0 M) = M := rfl
  generalize gz a0 M = a at hB hM hg
  have hn60 : a_n a ≤ 60 := hB.1.1
  have hl40 : a_ln a ≤ 40 := hM.2.2.2.1.2.1
  have hlk : lkOk (a_t a) (a_lk a) := hM.2.1.1
  cases hw_k : wiB x1 (nI 1) (nI 1000) with
  | false =>
    exact pz_t (k := 1) ⟨by omega, by omega⟩ hM hg (w_pass_1 (t_pass_1 hB hw_k hst)) (fun N hN => m_pass_1 hN hw_k)
  | true =>
    obtain ⟨k, hlo_k, hhi_k, rfl⟩ := wi_ex (by omega) (by omega) hw_k
    rcases Nat.lt_or_ge 100000 (a_t a + k) with hL | hL
    · exact pz_t (k := 2) ⟨by omega, by omega⟩ hM hg (w_pass_2 (t_pass_2 hB hlo_k hhi_k hL hst)) (fun N hN => m_pass_2 hN hlo_k hhi_k hL)
    · exact pz_0 (P := (fun r => r = nI (a_t a + k))) (a1 := pasA a k) (W1 := W) hM eq_u hg (w_pass_0 (b_pass_0 hB hlo_k hhi_k hL) (Nat.le_of_ble_eq_true rfl) (Nat.le_of_ble_eq_true rfl) rfl rfl) (fun N hN => m_pass_0 hN hlo_k hhi_k hL) (fun M2 h2 => ⟨pasA a k, RelM_W h2 (by omega), fun N hN => RelB_W hN (by omega)⟩)
set_option maxRecDepth 100000 in
theorem p_append {l : Launch} {E : Ee} {M : Mm} {W : Nat} (hst : l.stackTraces = false) (hI : INV M W) (hWW : W < 1000) (x1 : Int32) : PAIR l E yL_append (.codeWith yL_append cL_append 4 (some .int) wh_append :: gl) yX9_append (.code yX9_append cX9_append 2 (some .int) :: gl) ({ frames := 1, cells := 0, slots := 0, locals := 22 } : Room) M [.int x1] W := by
  obtain ⟨a0, hB0, hM0⟩ := hI
  have hB : RelB M (gz a0 M) W := RelB_gz hB0
  have hM : RelM M (gz a0 M) W := hM0
  have hg : a_g (gz a0 M) = M := rfl
  generalize gz a0 M = a at hB hM hg
  have hn60 : a_n a ≤ 60 := hB.1.1
  have hl40 : a_ln a ≤ 40 := hM.2.2.2.1.2.1
  have hlk : lkOk (a_t a) (a_lk a) := hM.2.1.1
  cases hw : wiB x1 (nI 33) (nI 126) with
  | false =>
    exact pz_t (k := 1) ⟨by omega, by omega⟩ hM hg (w_append_1 (t_append_1 hB hw hst)) (fun N hN => m_append_1 hN hw)
  | true =>
    obtain ⟨h1, h2⟩ := wi_2 hw
    rcases Nat.lt_or_ge (a_ln a) 40 with hlt | hge
    · exact pz_0 (P := (fun r => r = nI (a_ln a + 1))) (a1 := appA a x1) (W1 := W) hM eq_u hg (w_append_0 (b_append_0 hB h1 h2 hlt) (Nat.le_of_ble_eq_true rfl) (Nat.le_of_ble_eq_true rfl) rfl rfl) (fun N hN => m_append_0 hN hw hlt) (fun M2 h2 => ⟨appA a x1, RelM_W h2 (by omega), fun N hN => RelB_W hN (by omega)⟩)
    · have hful : a_ln a = 40 := by omega
      exact pz_t (k := 2) ⟨by omega, by omega⟩ hM hg (w_append_2 (t_append_2 hB h1 h2 hful hst)) (fun N hN => m_append_2 hN hw hful)
set_option maxRecDepth 100000 in
theorem p_stroke {l : Launch} {E : Ee} {M : Mm} {W : Nat} (hst : l.stackTraces = false) (hI : INV M W) (hWW : W < 1000) (x1 x2 x3 x4 : Int32) : PAIR l E yL_stroke (.codeWith yL_stroke cL_stroke 7 (some .int) wh_stroke :: gl) yX9_stroke (.code yX9_stroke cX9_stroke 5 (some .int) :: gl) ({ frames := 4, cells := 0, slots := 0, locals := 99 } : Room) M [.int x1, .int x2, .int x3, .int x4] W := by
  obtain ⟨a0, hB0, hM0⟩ := hI
  have hB : RelB M (gz a0 M) W := RelB_gz hB0
  have hM : RelM M (gz a0 M) W := hM0
  have hg : a_g (gz a0 M) = M := rfl
  generalize gz a0 M = a at hB hM hg
  have hn60 : a_n a ≤ 60 := hB.1.1
  have hl40 : a_ln a ≤ 40 := hM.2.2.2.1.2.1
  have hlk : lkOk (a_t a) (a_lk a) := hM.2.1.1
  cases hw_u : wiB x1 (nI 0) (nI 4) with
  | false =>
    exact pz_t (k := 1) ⟨by omega, by omega⟩ hM hg (w_stroke_1 (t_stroke_u hB hw_u hst)) (fun N hN => m_stroke_1 hN (by rw [hw_u]; rfl))
  | true =>
    obtain ⟨u, hlo_u, hhi_u, rfl⟩ := wi_ex (by omega) (by omega) hw_u
    cases hw_la : wiB x2 (nI 0) (nI 2) with
    | false =>
      exact pz_t (k := 1) ⟨by omega, by omega⟩ hM hg (w_stroke_1 (t_stroke_l hB (show u < 5 by omega) hw_la hst)) (fun N hN => m_stroke_1 hN (by rw [hw_la, Bool.and_false]))
    | true =>
      obtain ⟨la, hlo_la, hhi_la, rfl⟩ := wi_ex (by omega) (by omega) hw_la
      cases hw_co : wiB x3 (nI 1) (nI 9) with
      | false =>
        exact pz_t (k := 2) ⟨by omega, by omega⟩ hM hg (w_stroke_2 (t_stroke_c hB (show u < 5 by omega) (show la < 3 by omega) hw_co hst)) (fun N hN => m_stroke_2a hN (show u < 5 by omega) (show la < 3 by omega) hw_co)
      | true =>
        obtain ⟨co, hlo_co, hhi_co, rfl⟩ := wi_ex (by omega) (by omega) hw_co
        cases hw_fa : wiB x4 (nI 0) (nI 999) with
        | false =>
          exact pz_t (k := 2) ⟨by omega, by omega⟩ hM hg (w_stroke_2 (t_stroke_f hB (show u < 5 by omega) (show la < 3 by omega) hlo_co hhi_co hw_fa hst)) (fun N hN => m_stroke_2b hN (show u < 5 by omega) (show la < 3 by omega) hlo_co hhi_co hw_fa)
        | true =>
          obtain ⟨fa, hlo_fa, hhi_fa, rfl⟩ := wi_ex (by omega) (by omega) hw_fa
          cases hok : okP a with
          | false =>
            exact pz_t (k := 3) ⟨by omega, by omega⟩ hM hg (w_stroke_3 (t_stroke_p hB (show u < 5 by omega) (show la < 3 by omega) hlo_co hhi_co hhi_fa hok hst)) (fun N hN => m_stroke_3a hN (show u < 5 by omega) (show la < 3 by omega) hlo_co hhi_co hhi_fa hok)
          | true =>
            rcases Nat.lt_or_ge (a_n a) 60 with hlt | hge
            · exact pz_0 (P := (fun r => r = nI (csz (fun d => dwA a d && !clo (a_lk a) u d)))) (a1 := stA a 0 u la co fa) (W1 := W) hM eq_u hg (w_stroke_0 (b_stroke_0 hB (show u < 5 by omega) (show la < 3 by omega) hlo_co hhi_co hhi_fa hok hlt) (Nat.le_of_ble_eq_true rfl) (Nat.le_of_ble_eq_true rfl) rfl rfl) (fun N hN => m_stroke_0 hN (show u < 5 by omega) (show la < 3 by omega) hlo_co hhi_co hhi_fa hok hlt) (fun M2 h2 => ⟨stA a 0 u la co fa, RelM_W h2 (by omega), fun N hN => RelB_W hN (by omega)⟩)
            · have hful : a_n a = 60 := by omega
              exact pz_t (k := 3) ⟨by omega, by omega⟩ hM hg (w_stroke_3 (t_stroke_n hB (show u < 5 by omega) (show la < 3 by omega) hlo_co hhi_co hhi_fa hok hful hst)) (fun N hN => m_stroke_3b hN (show u < 5 by omega) (show la < 3 by omega) hlo_co hhi_co hhi_fa hok hful)
set_option maxRecDepth 100000 in
theorem p_erase {l : Launch} {E : Ee} {M : Mm} {W : Nat} (hst : l.stackTraces = false) (hI : INV M W) (hWW : W < 1000) (x1 x2 x3 : Int32) : PAIR l E yL_erase (.codeWith yL_erase cL_erase 6 (some .int) wh_erase :: gl) yX9_erase (.code yX9_erase cX9_erase 4 (some .int) :: gl) ({ frames := 5, cells := 0, slots := 0, locals := 115 } : Room) M [.int x1, .int x2, .int x3] W := by
  obtain ⟨a0, hB0, hM0⟩ := hI
  have hB : RelB M (gz a0 M) W := RelB_gz hB0
  have hM : RelM M (gz a0 M) W := hM0
  have hg : a_g (gz a0 M) = M := rfl
  generalize gz a0 M = a at hB hM hg
  have hn60 : a_n a ≤ 60 := hB.1.1
  have hl40 : a_ln a ≤ 40 := hM.2.2.2.1.2.1
  have hlk : lkOk (a_t a) (a_lk a) := hM.2.1.1
  cases hw_u : wiB x1 (nI 0) (nI 4) with
  | false =>
    exact pz_t (k := 1) ⟨by omega, by omega⟩ hM hg (w_erase_1 (t_erase_u hB hw_u hst)) (fun N hN => m_erase_1 hN (by rw [hw_u]; rfl))
  | true =>
    obtain ⟨u, hlo_u, hhi_u, rfl⟩ := wi_ex (by omega) (by omega) hw_u
    cases hw_la : wiB x2 (nI 0) (nI 2) with
    | false =>
      exact pz_t (k := 1) ⟨by omega, by omega⟩ hM hg (w_erase_1 (t_erase_l hB (show u < 5 by omega) hw_la hst)) (fun N hN => m_erase_1 hN (by rw [hw_la, Bool.and_false]))
    | true =>
      obtain ⟨la, hlo_la, hhi_la, rfl⟩ := wi_ex (by omega) (by omega) hw_la
      cases hw_k : wiB x3 (nI 0) (nI 2) with
      | false =>
        exact pz_t (k := 2) ⟨by omega, by omega⟩ hM hg (w_erase_2 (t_erase_k hB (show u < 5 by omega) (show la < 3 by omega) hw_k hst)) (fun N hN => m_erase_2 hN (show u < 5 by omega) (show la < 3 by omega) hw_k)
      | true =>
        obtain ⟨k, hlo_k, hhi_k, rfl⟩ := wi_ex (by omega) (by omega) hw_k
        cases hok : okP a with
        | false =>
          exact pz_t (k := 3) ⟨by omega, by omega⟩ hM hg (w_erase_3 (t_erase_p hB (show u < 5 by omega) (show la < 3 by omega) (show k < 3 by omega) hok hst)) (fun N hN => m_erase_3a hN (show u < 5 by omega) (show la < 3 by omega) (show k < 3 by omega) hok)
        | true =>
          rcases Nat.lt_or_ge (a_n a) 60 with hlt | hge
          · exact pz_0 (P := (fun r => r = nI (dfC (clA a) (clA (stA a 2 u la k 0))))) (a1 := stA a 2 u la k 0) (W1 := W) hM eq_u hg (w_erase_0 (b_erase_0 hB (show u < 5 by omega) (show la < 3 by omega) (show k < 3 by omega) hok hlt) (Nat.le_of_ble_eq_true rfl) (Nat.le_of_ble_eq_true rfl) rfl rfl) (fun N hN => m_erase_0 hN (show u < 5 by omega) (show la < 3 by omega) (show k < 3 by omega) hok hlt) (fun M2 h2 => ⟨stA a 2 u la k 0, RelM_W h2 (by omega), fun N hN => RelB_W hN (by omega)⟩)
          · have hful : a_n a = 60 := by omega
            exact pz_t (k := 3) ⟨by omega, by omega⟩ hM hg (w_erase_3 (t_erase_n hB (show u < 5 by omega) (show la < 3 by omega) (show k < 3 by omega) hok hful hst)) (fun N hN => m_erase_3b hN (show u < 5 by omega) (show la < 3 by omega) (show k < 3 by omega) hok hful)
set_option maxRecDepth 100000 in
theorem p_fill {l : Launch} {E : Ee} {M : Mm} {W : Nat} (hst : l.stackTraces = false) (hI : INV M W) (hWW : W < 1000) (x1 x2 x3 x4 : Int32) : PAIR l E yL_fill (.codeWith yL_fill cL_fill 7 (some .int) wh_fill :: gl) yX9_fill (.code yX9_fill cX9_fill 6 (some .int) :: gl) ({ frames := 5, cells := 0, slots := 0, locals := 115 } : Room) M [.int x1, .int x2, .int x3, .int x4] W := by
  obtain ⟨a0, hB0, hM0⟩ := hI
  have hB : RelB M (gz a0 M) W := RelB_gz hB0
  have hM : RelM M (gz a0 M) W := hM0
  have hg : a_g (gz a0 M) = M := rfl
  generalize gz a0 M = a at hB hM hg
  have hn60 : a_n a ≤ 60 := hB.1.1
  have hl40 : a_ln a ≤ 40 := hM.2.2.2.1.2.1
  have hlk : lkOk (a_t a) (a_lk a) := hM.2.1.1
  cases hw_u : wiB x1 (nI 0) (nI 4) with
  | false =>
    exact pz_t (k := 1) ⟨by omega, by omega⟩ hM hg (w_fill_1 (t_fill_u hB hw_u hst)) (fun N hN => m_fill_1a hN (by rw [hw_u]; rfl))
  | true =>
    obtain ⟨u, hlo_u, hhi_u, rfl⟩ := wi_ex (by omega) (by omega) hw_u
    cases hw_la : wiB x2 (nI 0) (nI 2) with
    | false =>
      exact pz_t (k := 1) ⟨by omega, by omega⟩ hM hg (w_fill_1 (t_fill_l hB (show u < 5 by omega) hw_la hst)) (fun N hN => m_fill_1a hN (by rw [hw_la, Bool.and_false]))
    | true =>
      obtain ⟨la, hlo_la, hhi_la, rfl⟩ := wi_ex (by omega) (by omega) hw_la
      cases hw_c : wiB x4 (nI 0) (nI 255) with
      | false =>
        exact pz_t (k := 1) ⟨by omega, by omega⟩ hM hg (w_fill_1 (t_fill_e hB (show u < 5 by omega) (show la < 3 by omega) hw_c hst)) (fun N hN => m_fill_1b hN (show u < 5 by omega) (show la < 3 by omega) hw_c)
      | true =>
        obtain ⟨c, hlo_c, hhi_c, rfl⟩ := wi_ex (by omega) (by omega) hw_c
        cases hw_co : wiB x3 (nI 1) (nI 9) with
        | false =>
          exact pz_t (k := 2) ⟨by omega, by omega⟩ hM hg (w_fill_2 (t_fill_c hB (show u < 5 by omega) (show la < 3 by omega) (show c < 256 by omega) hw_co hst)) (fun N hN => m_fill_2 hN (show u < 5 by omega) (show la < 3 by omega) (show c < 256 by omega) hw_co)
        | true =>
          obtain ⟨co, hlo_co, hhi_co, rfl⟩ := wi_ex (by omega) (by omega) hw_co
          rcases Nat.lt_or_ge (a_n a) 60 with hlt | hge
          · exact pz_0 (P := (fun r => r = nI (csz (fun d => fiA a c d && !clo (a_lk a) u d)))) (a1 := flA a u la co c) (W1 := W) hM eq_u hg (w_fill_0 (b_fill_0 hB (show u < 5 by omega) (show la < 3 by omega) (show c < 256 by omega) hlo_co hhi_co hlt) (Nat.le_of_ble_eq_true rfl) (Nat.le_of_ble_eq_true rfl) rfl rfl) (fun N hN => m_fill_0 hN (show u < 5 by omega) (show la < 3 by omega) (show c < 256 by omega) hlo_co hhi_co hlt) (fun M2 h2 => ⟨flA a u la co c, RelM_W h2 (by omega), fun N hN => RelB_W hN (by omega)⟩)
          · have hful : a_n a = 60 := by omega
            exact pz_t (k := 3) ⟨by omega, by omega⟩ hM hg (w_fill_3 (t_fill_n hB (show u < 5 by omega) (show la < 3 by omega) (show c < 256 by omega) hlo_co hhi_co hful hst)) (fun N hN => m_fill_3 hN (show u < 5 by omega) (show la < 3 by omega) (show c < 256 by omega) hlo_co hhi_co hful)
set_option maxRecDepth 100000 in
theorem p_undo {l : Launch} {E : Ee} {M : Mm} {W : Nat} (hst : l.stackTraces = false) (hI : INV M W) (hWW : W < 1000) (x1 : Int32) : PAIR l E yL_undo (.codeWith yL_undo cL_undo 4 (some .int) wh_undo :: gl) yX9_undo (.code yX9_undo cX9_undo 3 (some .int) :: gl) ({ frames := 2, cells := 0, slots := 0, locals := 42 } : Room) M [.int x1] W := by
  obtain ⟨a0, hB0, hM0⟩ := hI
  have hB : RelB M (gz a0 M) W := RelB_gz hB0
  have hM : RelM M (gz a0 M) W := hM0
  have hg : a_g (gz a0 M) = M := rfl
  generalize gz a0 M = a at hB hM hg
  have hn60 : a_n a ≤ 60 := hB.1.1
  have hl40 : a_ln a ≤ 40 := hM.2.2.2.1.2.1
  have hlk : lkOk (a_t a) (a_lk a) := hM.2.1.1
  cases hw_u : wiB x1 (nI 0) (nI 4) with
  | false =>
    exact pz_t (k := 1) ⟨by omega, by omega⟩ hM hg (w_undo_1 (t_undo_1 hB hw_u hst)) (fun N hN => m_undo_1 hN hw_u)
  | true =>
    obtain ⟨u, hlo_u, hhi_u, rfl⟩ := wi_ex (by omega) (by omega) hw_u
    cases hl9 : laA a (nI u) (a_n a) with
    | none =>
      exact pz_t (k := 2) ⟨by omega, by omega⟩ hM hg (w_undo_2 (t_undo_2 hB (show u < 5 by omega) hl9 hst)) (fun N hN => m_undo_2 hN (show u < 5 by omega) hl9)
    | some k =>
      obtain ⟨v0, -, -, hv0⟩ := hM.1.2.2.2.2.2.2.2.2.1
      have hv : ∀ i, i < a_n a → a_un a i < v0 + 1 := fun i hi => Nat.lt_succ_of_le (hv0 i hi)
      exact pz_0 (P := (fun r => r = nI k)) (a1 := unG a k false (v0 + 1)) (W1 := W + 1) hM eq_u hg (w_undo_0 (b_undo_0 hB (show u < 5 by omega) hl9 hv) (Nat.le_of_ble_eq_true rfl) (Nat.le_of_ble_eq_true rfl) rfl rfl) (fun N hN => m_undo_0 hN (show u < 5 by omega) hl9) (fun M2 h2 => by
    obtain ⟨v, hv2, h3⟩ := h2
    exact ⟨unG a k false v, h3, fun N hN => RelB_un hN hv hv2⟩)
set_option maxRecDepth 100000 in
theorem p_redo {l : Launch} {E : Ee} {M : Mm} {W : Nat} (hst : l.stackTraces = false) (hI : INV M W) (hWW : W < 1000) (x1 : Int32) : PAIR l E yL_redo (.codeWith yL_redo cL_redo 4 (some .int) wh_redo :: gl) yX9_redo (.code yX9_redo cX9_redo 3 (some .int) :: gl) ({ frames := 2, cells := 0, slots := 0, locals := 42 } : Room) M [.int x1] W := by
  obtain ⟨a0, hB0, hM0⟩ := hI
  have hB : RelB M (gz a0 M) W := RelB_gz hB0
  have hM : RelM M (gz a0 M) W := hM0
  have hg : a_g (gz a0 M) = M := rfl
  generalize gz a0 M = a at hB hM hg
  have hn60 : a_n a ≤ 60 := hB.1.1
  have hl40 : a_ln a ≤ 40 := hM.2.2.2.1.2.1
  have hlk : lkOk (a_t a) (a_lk a) := hM.2.1.1
  cases hw_u : wiB x1 (nI 0) (nI 4) with
  | false =>
    exact pz_t (k := 1) ⟨by omega, by omega⟩ hM hg (w_redo_1 (t_redo_1 hB hw_u hst)) (fun N hN => m_redo_1 hN hw_u)
  | true =>
    obtain ⟨u, hlo_u, hhi_u, rfl⟩ := wi_ex (by omega) (by omega) hw_u
    cases hl9 : rdA a (nI u) (a_n a) with
    | none =>
      exact pz_t (k := 2) ⟨by omega, by omega⟩ hM hg (w_redo_2 (t_redo_2 hB hWW (show u < 5 by omega) hl9 hst)) (fun N hN => m_redo_2 hN hWW (show u < 5 by omega) hl9)
    | some k =>
      exact pz_0 (P := (fun r => r = nI k)) (a1 := unG a k true 0) (W1 := W) hM eq_u hg (w_redo_0 (b_redo_0 hB hWW (show u < 5 by omega) hl9) (Nat.le_of_ble_eq_true rfl) (Nat.le_of_ble_eq_true rfl) rfl rfl) (fun N hN => m_redo_0 hN hWW (show u < 5 by omega) hl9) (fun M2 h2 => ⟨unG a k true 0, RelM_W h2 (by omega), fun N hN => RelB_W hN (by omega)⟩)
set_option maxRecDepth 100000 in
theorem p_lease {l : Launch} {E : Ee} {M : Mm} {W : Nat} (hst : l.stackTraces = false) (hI : INV M W) (hWW : W < 1000) (x1 x2 x3 x4 : Int32) : PAIR l E yL_lease (.codeWith yL_lease cL_lease 7 (some .int) wh_lease :: gl) yX9_lease (.code yX9_lease cX9_lease 5 (some .int) :: gl) ({ frames := 4, cells := 0, slots := 0, locals := 96 } : Room) M [.int x1, .int x2, .int x3, .int x4] W := by
  obtain ⟨a0, hB0, hM0⟩ := hI
  have hB : RelB M (gz a0 M) W := RelB_gz hB0
  have hM : RelM M (gz a0 M) W := hM0
  have hg : a_g (gz a0 M) = M := rfl
  generalize gz a0 M = a at hB hM hg
  have hn60 : a_n a ≤ 60 := hB.1.1
  have hl40 : a_ln a ≤ 40 := hM.2.2.2.1.2.1
  have hlk : lkOk (a_t a) (a_lk a) := hM.2.1.1
  cases hw_u : wiB x1 (nI 0) (nI 4) with
  | false =>
    exact pz_t (k := 1) ⟨by omega, by omega⟩ hM hg (w_lease_1 (t_lease_u hB hw_u hst)) (fun N hN => m_lease_1a hN hw_u)
  | true =>
    obtain ⟨u, hlo_u, hhi_u, rfl⟩ := wi_ex (by omega) (by omega) hw_u
    cases hw_f : wiB x2 (nI 0) (nI 255) with
    | false =>
      exact pz_t (k := 1) ⟨by omega, by omega⟩ hM hg (w_lease_1 (t_lease_f hB (show u < 5 by omega) hw_f hst)) (fun N hN => m_lease_1b hN (show u < 5 by omega) hw_f)
    | true =>
      obtain ⟨f, hlo_f, hhi_f, rfl⟩ := wi_ex (by omega) (by omega) hw_f
      cases hw_g : wiB x3 (nI 0) (nI 255) with
      | false =>
        exact pz_t (k := 1) ⟨by omega, by omega⟩ hM hg (w_lease_1 (t_lease_g hB (show u < 5 by omega) (show f < 256 by omega) hw_g hst)) (fun N hN => m_lease_1c hN (show u < 5 by omega) (show f < 256 by omega) hw_g)
      | true =>
        obtain ⟨g, hlo_g, hhi_g, rfl⟩ := wi_ex (by omega) (by omega) hw_g
        cases hw_k : wiB x4 (nI 1) (nI 999) with
        | false =>
          exact pz_t (k := 2) ⟨by omega, by omega⟩ hM hg (w_lease_2 (t_lease_t hB (show u < 5 by omega) (show f < 256 by omega) (show g < 256 by omega) hw_k hst)) (fun N hN => m_lease_2 hN (show u < 5 by omega) (show f < 256 by omega) (show g < 256 by omega) hw_k)
        | true =>
          obtain ⟨k, hlo_k, hhi_k, rfl⟩ := wi_ex (by omega) (by omega) hw_k
          have hlk6 : (a_lk a).length ≤ 6 := hlk.1
          cases hls : lsB a u f g with
          | true =>
            rcases Nat.lt_or_ge (a_lk a).length 6 with hlt | hge
            · exact pz_0 (P := (fun r => r = -1)) (a1 := a) (W1 := W) hM eq_u hg (w_lease_0 (b_lease_m hB (show u < 5 by omega) (show f < 256 by omega) (show g < 256 by omega) hlo_k hhi_k hls) (Nat.le_of_ble_eq_true rfl) (Nat.le_of_ble_eq_true rfl) rfl rfl) (fun N hN => m_lease_0b hN (show u < 5 by omega) (show f < 256 by omega) (show g < 256 by omega) hlo_k hhi_k hlt hls) (fun M2 h2 => ⟨a, RelM_W h2 (by omega), fun N hN => RelB_W hN (by omega)⟩)
            · exact pz_0 (P := (fun r => r = -1)) (a1 := a) (W1 := W) hM eq_u hg (w_lease_0 (b_lease_m hB (show u < 5 by omega) (show f < 256 by omega) (show g < 256 by omega) hlo_k hhi_k hls) (Nat.le_of_ble_eq_true rfl) (Nat.le_of_ble_eq_true rfl) rfl rfl) (fun N hN => m_lease_0a hN (show u < 5 by omega) (show f < 256 by omega) (show g < 256 by omega) hlo_k hhi_k (by omega)) (fun M2 h2 => ⟨a, RelM_W h2 (by omega), fun N hN => RelB_W hN (by omega)⟩)
          | false =>
            rcases Nat.lt_or_ge (a_lk a).length 6 with hlt | hge
            · exact pz_0 (P := (fun r => r = nI ((a_lk a).length + 1))) (a1 := lkA a (a_lk a ++ [(u, f, g, a_t a + k)])) (W1 := W) hM eq_u hg (w_lease_0 (b_lease_0 hB (show u < 5 by omega) (show f < 256 by omega) (show g < 256 by omega) hlo_k hhi_k hls hlt) (Nat.le_of_ble_eq_true rfl) (Nat.le_of_ble_eq_true rfl) rfl rfl) (fun N hN => m_lease_0c hN (show u < 5 by omega) (show f < 256 by omega) (show g < 256 by omega) hlo_k hhi_k hlt hls) (fun M2 h2 => ⟨lkA a (a_lk a ++ [(u, f, g, a_t a + k)]), RelM_W h2 (by omega), fun N hN => RelB_W hN (by omega)⟩)
            · exact pz_0 (P := (fun r => r = -1)) (a1 := a) (W1 := W) hM eq_u hg (w_lease_0 (b_lease_f hB (show u < 5 by omega) (show f < 256 by omega) (show g < 256 by omega) hlo_k hhi_k hls (by omega)) (Nat.le_of_ble_eq_true rfl) (Nat.le_of_ble_eq_true rfl) rfl rfl) (fun N hN => m_lease_0a hN (show u < 5 by omega) (show f < 256 by omega) (show g < 256 by omega) hlo_k hhi_k (by omega)) (fun M2 h2 => ⟨a, RelM_W h2 (by omega), fun N hN => RelB_W hN (by omega)⟩)
set_option maxRecDepth 100000 in
theorem p_release {l : Launch} {E : Ee} {M : Mm} {W : Nat} (hst : l.stackTraces = false) (hI : INV M W) (hWW : W < 1000) (x1 : Int32) : PAIR l E yL_release (.codeWith yL_release cL_release 4 (some .int) wh_release :: gl) yX9_release (.code yX9_release cX9_release 3 (some .int) :: gl) ({ frames := 2, cells := 0, slots := 0, locals := 42 } : Room) M [.int x1] W := by
  obtain ⟨a0, hB0, hM0⟩ := hI
  have hB : RelB M (gz a0 M) W := RelB_gz hB0
  have hM : RelM M (gz a0 M) W := hM0
  have hg : a_g (gz a0 M) = M := rfl
  generalize gz a0 M = a at hB hM hg
  have hn60 : a_n a ≤ 60 := hB.1.1
  have hl40 : a_ln a ≤ 40 := hM.2.2.2.1.2.1
  have hlk : lkOk (a_t a) (a_lk a) := hM.2.1.1
  cases hw_u : wiB x1 (nI 0) (nI 4) with
  | false =>
    exact pz_t (k := 1) ⟨by omega, by omega⟩ hM hg (w_release_1 (t_release_1 hB hw_u hst)) (fun N hN => m_release_1 hN hw_u)
  | true =>
    obtain ⟨u, hlo_u, hhi_u, rfl⟩ := wi_ex (by omega) (by omega) hw_u
    exact pz_0 (P := (fun r => r = nI ((a_lk a).filter (fun z => decide (z.1 = u))).length)) (a1 := lkA a ((a_lk a).filter (fun z => !decide (z.1 = u)))) (W1 := W) hM eq_u hg (w_release_0 (b_release_0 hB (show u < 5 by omega)) (Nat.le_of_ble_eq_true rfl) (Nat.le_of_ble_eq_true rfl) rfl rfl) (fun N hN => m_release_0 hN (show u < 5 by omega)) (fun M2 h2 => ⟨lkA a ((a_lk a).filter (fun z => !decide (z.1 = u))), RelM_W h2 (by omega), fun N hN => RelB_W hN (by omega)⟩)
set_option maxRecDepth 100000 in
theorem p_holder {l : Launch} {E : Ee} {M : Mm} {W : Nat} (hst : l.stackTraces = false) (hI : INV M W) (hWW : W < 1000) (x1 : Int32) : PAIR l E yL_holder (.codeWith yL_holder cL_holder 4 (some .int) wh_holder :: gl) yX9_holder (.code yX9_holder cX9_holder 2 (some .int) :: gl) ({ frames := 3, cells := 0, slots := 0, locals := 73 } : Room) M [.int x1] W := by
  obtain ⟨a0, hB0, hM0⟩ := hI
  have hB : RelB M (gz a0 M) W := RelB_gz hB0
  have hM : RelM M (gz a0 M) W := hM0
  have hg : a_g (gz a0 M) = M := rfl
  generalize gz a0 M = a at hB hM hg
  have hn60 : a_n a ≤ 60 := hB.1.1
  have hl40 : a_ln a ≤ 40 := hM.2.2.2.1.2.1
  have hlk : lkOk (a_t a) (a_lk a) := hM.2.1.1
  cases hw_c : wiB x1 (nI 0) (nI 255) with
  | false =>
    exact pz_t (k := 1) ⟨by omega, by omega⟩ hM hg (w_holder_1 (t_holder_1 hB hw_c hst)) (fun N hN => m_holder_1 hN hw_c)
  | true =>
    obtain ⟨c, hlo_c, hhi_c, rfl⟩ := wi_ex (by omega) (by omega) hw_c
    exact pz_0 (P := (fun r => IsHol (a_lk a) c r)) (a1 := a) (W1 := W) hM (hol_u (fun z hz => (hlk.2 z hz).1)) hg (w_holder_0 (b_holder_0 hB (show c < 256 by omega)) (Nat.le_of_ble_eq_true rfl) (Nat.le_of_ble_eq_true rfl) rfl rfl) (fun N hN => m_holder_0 hN (show c < 256 by omega)) (fun M2 h2 => ⟨a, RelM_W h2 (by omega), fun N hN => RelB_W hN (by omega)⟩)
set_option maxRecDepth 100000 in
theorem p_setMark {l : Launch} {E : Ee} {M : Mm} {W : Nat} (hst : l.stackTraces = false) (hI : INV M W) (hWW : W < 1000) (x1 : Int32) : PAIR l E yL_setMark (.codeWith yL_setMark cL_setMark 4 (some .int) wh_setMark :: gl) yX9_setMark (.code yX9_setMark cX9_setMark 3 (some .int) :: gl) ({ frames := 2, cells := 0, slots := 0, locals := 42 } : Room) M [.int x1] W := by
  obtain ⟨a0, hB0, hM0⟩ := hI
  have hB : RelB M (gz a0 M) W := RelB_gz hB0
  have hM : RelM M (gz a0 M) W := hM0
  have hg : a_g (gz a0 M) = M := rfl
  generalize gz a0 M = a at hB hM hg
  have hn60 : a_n a ≤ 60 := hB.1.1
  have hl40 : a_ln a ≤ 40 := hM.2.2.2.1.2.1
  have hlk : lkOk (a_t a) (a_lk a) := hM.2.1.1
  cases hw_m : wiB x1 (nI 0) (nI 5) with
  | false =>
    exact pz_t (k := 1) ⟨by omega, by omega⟩ hM hg (w_setMark_1 (t_setMark_1 hB hw_m hst)) (fun N hN => m_setMark_1 hN hw_m)
  | true =>
    obtain ⟨m, hlo_m, hhi_m, rfl⟩ := wi_ex (by omega) (by omega) hw_m
    exact pz_0 (P := (fun r => r = nI (a_n a))) (a1 := mkA a m) (W1 := W) hM eq_u hg (w_setMark_0 (b_setMark_0 hB (show m < 6 by omega)) (Nat.le_of_ble_eq_true rfl) (Nat.le_of_ble_eq_true rfl) rfl rfl) (fun N hN => m_setMark_0 hN (show m < 6 by omega)) (fun M2 h2 => ⟨mkA a m, RelM_W h2 (by omega), fun N hN => RelB_W hN (by omega)⟩)
set_option maxRecDepth 100000 in
theorem p_replay {l : Launch} {E : Ee} {M : Mm} {W : Nat} (hst : l.stackTraces = false) (hI : INV M W) (hWW : W < 1000) (x1 x2 : Int32) : PAIR l E yL_replay (.codeWith yL_replay cL_replay 5 (some .int) wh_replay :: gl) yX9_replay (.code yX9_replay cX9_replay 3 (some .int) :: gl) ({ frames := 4, cells := 0, slots := 0, locals := 95 } : Room) M [.int x1, .int x2] W := by
  obtain ⟨a0, hB0, hM0⟩ := hI
  have hB : RelB M (gz a0 M) W := RelB_gz hB0
  have hM : RelM M (gz a0 M) W := hM0
  have hg : a_g (gz a0 M) = M := rfl
  generalize gz a0 M = a at hB hM hg
  have hn60 : a_n a ≤ 60 := hB.1.1
  have hl40 : a_ln a ≤ 40 := hM.2.2.2.1.2.1
  have hlk : lkOk (a_t a) (a_lk a) := hM.2.1.1
  cases hw_m : wiB x1 (nI 0) (nI 5) with
  | false =>
    exact pz_t (k := 1) ⟨by omega, by omega⟩ hM hg (w_replay_1 (t_replay_1a hB hw_m hst)) (fun N hN => m_replay_1a hN hw_m)
  | true =>
    obtain ⟨m, hlo_m, hhi_m, rfl⟩ := wi_ex (by omega) (by omega) hw_m
    cases hw_c : wiB x2 (nI 0) (nI 255) with
    | false =>
      exact pz_t (k := 1) ⟨by omega, by omega⟩ hM hg (w_replay_1 (t_replay_1b hB (show m < 6 by omega) hw_c hst)) (fun N hN => m_replay_1b hN (show m < 6 by omega) hw_c)
    | true =>
      obtain ⟨c, hlo_c, hhi_c, rfl⟩ := wi_ex (by omega) (by omega) hw_c
      cases hs : (a_mk a m).1 with
      | false =>
        exact pz_t (k := 2) ⟨by omega, by omega⟩ hM hg (w_replay_2 (t_replay_2 hB (show m < 6 by omega) (show c < 256 by omega) hs hst)) (fun N hN => m_replay_2 hN (show m < 6 by omega) (show c < 256 by omega) hs)
      | true =>
        exact pz_0 (P := (fun r => r = mcA a m c)) (a1 := a) (W1 := W) hM eq_u hg (w_replay_0 (b_replay_0 hB (show m < 6 by omega) (show c < 256 by omega) hs) (Nat.le_of_ble_eq_true rfl) (Nat.le_of_ble_eq_true rfl) rfl rfl) (fun N hN => m_replay_0 hN (show m < 6 by omega) (show c < 256 by omega) hs) (fun M2 h2 => ⟨a, RelM_W h2 (by omega), fun N hN => RelB_W hN (by omega)⟩)
set_option maxRecDepth 100000 in
theorem p_difference {l : Launch} {E : Ee} {M : Mm} {W : Nat} (hst : l.stackTraces = false) (hI : INV M W) (hWW : W < 1000) (x1 : Int32) : PAIR l E yL_difference (.codeWith yL_difference cL_difference 4 (some .int) wh_difference :: gl) yX9_difference (.code yX9_difference cX9_difference 2 (some .int) :: gl) ({ frames := 6, cells := 0, slots := 0, locals := 136 } : Room) M [.int x1] W := by
  obtain ⟨a0, hB0, hM0⟩ := hI
  have hB : RelB M (gz a0 M) W := RelB_gz hB0
  have hM : RelM M (gz a0 M) W := hM0
  have hg : a_g (gz a0 M) = M := rfl
  generalize gz a0 M = a at hB hM hg
  have hn60 : a_n a ≤ 60 := hB.1.1
  have hl40 : a_ln a ≤ 40 := hM.2.2.2.1.2.1
  have hlk : lkOk (a_t a) (a_lk a) := hM.2.1.1
  cases hw_m : wiB x1 (nI 0) (nI 5) with
  | false =>
    exact pz_t (k := 1) ⟨by omega, by omega⟩ hM hg (w_difference_1 (t_difference_1 hB hw_m hst)) (fun N hN => m_difference_1 hN hw_m)
  | true =>
    obtain ⟨m, hlo_m, hhi_m, rfl⟩ := wi_ex (by omega) (by omega) hw_m
    cases hs : (a_mk a m).1 with
    | false =>
      exact pz_t (k := 2) ⟨by omega, by omega⟩ hM hg (w_difference_2 (t_difference_2 hB (show m < 6 by omega) hs hst)) (fun N hN => m_difference_2 hN (show m < 6 by omega) hs)
    | true =>
      exact pz_0 (P := (fun r => r = nI (dfC (clA a) (mcA a m)))) (a1 := a) (W1 := W) hM eq_u hg (w_difference_0 (b_difference_0 hB (show m < 6 by omega) hs) (Nat.le_of_ble_eq_true rfl) (Nat.le_of_ble_eq_true rfl) rfl rfl) (fun N hN => m_difference_0 hN (show m < 6 by omega) hs) (fun M2 h2 => ⟨a, RelM_W h2 (by omega), fun N hN => RelB_W hN (by omega)⟩)
set_option maxRecDepth 100000 in
theorem p_rewind {l : Launch} {E : Ee} {M : Mm} {W : Nat} (hst : l.stackTraces = false) (hI : INV M W) (hWW : W < 1000) (x1 : Int32) : PAIR l E yL_rewind (.codeWith yL_rewind cL_rewind 4 (some .int) wh_rewind :: gl) yX9_rewind (.code yX9_rewind cX9_rewind 4 (some .int) :: gl) ({ frames := 2, cells := 0, slots := 0, locals := 42 } : Room) M [.int x1] W := by
  obtain ⟨a0, hB0, hM0⟩ := hI
  have hB : RelB M (gz a0 M) W := RelB_gz hB0
  have hM : RelM M (gz a0 M) W := hM0
  have hg : a_g (gz a0 M) = M := rfl
  generalize gz a0 M = a at hB hM hg
  have hn60 : a_n a ≤ 60 := hB.1.1
  have hl40 : a_ln a ≤ 40 := hM.2.2.2.1.2.1
  have hlk : lkOk (a_t a) (a_lk a) := hM.2.1.1
  cases hw_m : wiB x1 (nI 0) (nI 5) with
  | false =>
    exact pz_t (k := 1) ⟨by omega, by omega⟩ hM hg (w_rewind_1 (t_rewind_1 hB hw_m hst)) (fun N hN => m_rewind_1 hN hw_m)
  | true =>
    obtain ⟨m, hlo_m, hhi_m, rfl⟩ := wi_ex (by omega) (by omega) hw_m
    cases hs : (a_mk a m).1 with
    | false =>
      exact pz_t (k := 2) ⟨by omega, by omega⟩ hM hg (w_rewind_2 (t_rewind_2 hB (show m < 6 by omega) hs hst)) (fun N hN => m_rewind_2 hN (show m < 6 by omega) hs)
    | true =>
      exact pz_0 (P := (fun r => r = nI (a_n a - (a_mk a m).2.1))) (a1 := rwA a m) (W1 := W) hM eq_u hg (w_rewind_0 (b_rewind_0 hB (show m < 6 by omega) hs) (Nat.le_of_ble_eq_true rfl) (Nat.le_of_ble_eq_true rfl) rfl rfl) (fun N hN => m_rewind_0 hN (show m < 6 by omega) hs) (fun M2 h2 => ⟨rwA a m, RelM_W h2 (by omega), fun N hN => RelB_W hN (by omega)⟩)
set_option maxRecDepth 100000 in
theorem p_color {l : Launch} {E : Ee} {M : Mm} {W : Nat} (hst : l.stackTraces = false) (hI : INV M W) (hWW : W < 1000) (x1 : Int32) : PAIR l E yL_color (.codeWith yL_color cL_color 4 (some .int) wh_color :: gl) yX9_color (.code yX9_color cX9_color 2 (some .int) :: gl) ({ frames := 5, cells := 0, slots := 0, locals := 115 } : Room) M [.int x1] W := by
  obtain ⟨a0, hB0, hM0⟩ := hI
  have hB : RelB M (gz a0 M) W := RelB_gz hB0
  have hM : RelM M (gz a0 M) W := hM0
  have hg : a_g (gz a0 M) = M := rfl
  generalize gz a0 M = a at hB hM hg
  have hn60 : a_n a ≤ 60 := hB.1.1
  have hl40 : a_ln a ≤ 40 := hM.2.2.2.1.2.1
  have hlk : lkOk (a_t a) (a_lk a) := hM.2.1.1
  cases hw_c : wiB x1 (nI 0) (nI 255) with
  | false =>
    exact pz_t (k := 1) ⟨by omega, by omega⟩ hM hg (w_color_1 (t_color_1 hB hw_c hst)) (fun N hN => m_color_1 hN hw_c)
  | true =>
    obtain ⟨c, hlo_c, hhi_c, rfl⟩ := wi_ex (by omega) (by omega) hw_c
    exact pz_0 (P := (fun r => r = clA a c)) (a1 := a) (W1 := W) hM eq_u hg (w_color_0 (b_color_0 hB (show c < 256 by omega)) (Nat.le_of_ble_eq_true rfl) (Nat.le_of_ble_eq_true rfl) rfl rfl) (fun N hN => m_color_0 hN (show c < 256 by omega)) (fun M2 h2 => ⟨a, RelM_W h2 (by omega), fun N hN => RelB_W hN (by omega)⟩)
set_option maxRecDepth 100000 in
theorem p_colorLater {l : Launch} {E : Ee} {M : Mm} {W : Nat} (hst : l.stackTraces = false) (hI : INV M W) (hWW : W < 1000) (x1 x2 : Int32) : PAIR l E yL_colorLater (.codeWith yL_colorLater cL_colorLater 5 (some .int) wh_colorLater :: gl) yX9_colorLater (.code yX9_colorLater cX9_colorLater 3 (some .int) :: gl) ({ frames := 4, cells := 0, slots := 0, locals := 95 } : Room) M [.int x1, .int x2] W := by
  obtain ⟨a0, hB0, hM0⟩ := hI
  have hB : RelB M (gz a0 M) W := RelB_gz hB0
  have hM : RelM M (gz a0 M) W := hM0
  have hg : a_g (gz a0 M) = M := rfl
  generalize gz a0 M = a at hB hM hg
  have hn60 : a_n a ≤ 60 := hB.1.1
  have hl40 : a_ln a ≤ 40 := hM.2.2.2.1.2.1
  have hlk : lkOk (a_t a) (a_lk a) := hM.2.1.1
  cases hw_c : wiB x1 (nI 0) (nI 255) with
  | false =>
    exact pz_t (k := 1) ⟨by omega, by omega⟩ hM hg (w_colorLater_1 (t_colorLater_1 hB hw_c hst)) (fun N hN => m_colorLater_1 hN hw_c)
  | true =>
    obtain ⟨c, hlo_c, hhi_c, rfl⟩ := wi_ex (by omega) (by omega) hw_c
    cases hw_k : wiB x2 (nI 0) (nI 1000) with
    | false =>
      exact pz_t (k := 2) ⟨by omega, by omega⟩ hM hg (w_colorLater_2 (t_colorLater_2 hB (show c < 256 by omega) hw_k hst)) (fun N hN => m_colorLater_2 hN (show c < 256 by omega) hw_k)
    | true =>
      obtain ⟨k, hlo_k, hhi_k, rfl⟩ := wi_ex (by omega) (by omega) hw_k
      exact pz_0 (P := (fun r => r = colA (a_op a) (a_C a) (a_ac a) (a_n a) (nI (a_t a + k)) c)) (a1 := a) (W1 := W) hM eq_u hg (w_colorLater_0 (b_colorLater_0 hB (show c < 256 by omega) hhi_k) (Nat.le_of_ble_eq_true rfl) (Nat.le_of_ble_eq_true rfl) rfl rfl) (fun N hN => m_colorLater_0 hN (show c < 256 by omega) hhi_k) (fun M2 h2 => ⟨a, RelM_W h2 (by omega), fun N hN => RelB_W hN (by omega)⟩)
set_option maxRecDepth 100000 in
theorem p_top {l : Launch} {E : Ee} {M : Mm} {W : Nat} (hst : l.stackTraces = false) (hI : INV M W) (hWW : W < 1000) (x1 : Int32) : PAIR l E yL_top (.codeWith yL_top cL_top 4 (some .int) wh_top :: gl) yX9_top (.code yX9_top cX9_top 2 (some .int) :: gl) ({ frames := 5, cells := 0, slots := 0, locals := 115 } : Room) M [.int x1] W := by
  obtain ⟨a0, hB0, hM0⟩ := hI
  have hB : RelB M (gz a0 M) W := RelB_gz hB0
  have hM : RelM M (gz a0 M) W := hM0
  have hg : a_g (gz a0 M) = M := rfl
  generalize gz a0 M = a at hB hM hg
  have hn60 : a_n a ≤ 60 := hB.1.1
  have hl40 : a_ln a ≤ 40 := hM.2.2.2.1.2.1
  have hlk : lkOk (a_t a) (a_lk a) := hM.2.1.1
  cases hw_c : wiB x1 (nI 0) (nI 255) with
  | false =>
    exact pz_t (k := 1) ⟨by omega, by omega⟩ hM hg (w_top_1 (t_top_1 hB hw_c hst)) (fun N hN => m_top_1 hN hw_c)
  | true =>
    obtain ⟨c, hlo_c, hhi_c, rfl⟩ := wi_ex (by omega) (by omega) hw_c
    exact pz_0 (P := (fun r => r = tpA a c)) (a1 := a) (W1 := W) hM eq_u hg (w_top_0 (b_top_0 hB (show c < 256 by omega)) (Nat.le_of_ble_eq_true rfl) (Nat.le_of_ble_eq_true rfl) rfl rfl) (fun N hN => m_top_0 hN (show c < 256 by omega)) (fun M2 h2 => ⟨a, RelM_W h2 (by omega), fun N hN => RelB_W hN (by omega)⟩)
set_option maxRecDepth 100000 in
theorem p_count {l : Launch} {E : Ee} {M : Mm} {W : Nat} (hst : l.stackTraces = false) (hI : INV M W) (hWW : W < 1000) (x1 : Int32) : PAIR l E yL_count (.codeWith yL_count cL_count 4 (some .int) wh_count :: gl) yX9_count (.code yX9_count cX9_count 2 (some .int) :: gl) ({ frames := 6, cells := 0, slots := 0, locals := 139 } : Room) M [.int x1] W := by
  obtain ⟨a0, hB0, hM0⟩ := hI
  have hB : RelB M (gz a0 M) W := RelB_gz hB0
  have hM : RelM M (gz a0 M) W := hM0
  have hg : a_g (gz a0 M) = M := rfl
  generalize gz a0 M = a at hB hM hg
  have hn60 : a_n a ≤ 60 := hB.1.1
  have hl40 : a_ln a ≤ 40 := hM.2.2.2.1.2.1
  have hlk : lkOk (a_t a) (a_lk a) := hM.2.1.1
  cases hw_w : wiB x1 (nI 0) (nI 9) with
  | false =>
    exact pz_t (k := 1) ⟨by omega, by omega⟩ hM hg (w_count_1 (t_count_1 hB hw_w hst)) (fun N hN => m_count_1 hN hw_w)
  | true =>
    obtain ⟨w, hlo_w, hhi_w, rfl⟩ := wi_ex (by omega) (by omega) hw_w
    exact pz_0 (P := (fun r => r = bpA a w)) (a1 := a) (W1 := W) hM eq_u hg (w_count_0 (b_count_0 hB (show w < 10 by omega)) (Nat.le_of_ble_eq_true rfl) (Nat.le_of_ble_eq_true rfl) rfl rfl) (fun N hN => m_count_0 hN (show w < 10 by omega)) (fun M2 h2 => ⟨a, RelM_W h2 (by omega), fun N hN => RelB_W hN (by omega)⟩)
set_option maxRecDepth 100000 in
theorem p_operation {l : Launch} {E : Ee} {M : Mm} {W : Nat} (hst : l.stackTraces = false) (hI : INV M W) (hWW : W < 1000) (x1 x2 : Int32) : PAIR l E yL_operation (.codeWith yL_operation cL_operation 5 (some .int) wh_operation :: gl) yX9_operation (.code yX9_operation cX9_operation 3 (some .int) :: gl) ({ frames := 6, cells := 0, slots := 0, locals := 140 } : Room) M [.int x1, .int x2] W := by
  obtain ⟨a0, hB0, hM0⟩ := hI
  have hB : RelB M (gz a0 M) W := RelB_gz hB0
  have hM : RelM M (gz a0 M) W := hM0
  have hg : a_g (gz a0 M) = M := rfl
  generalize gz a0 M = a at hB hM hg
  have hn60 : a_n a ≤ 60 := hB.1.1
  have hl40 : a_ln a ≤ 40 := hM.2.2.2.1.2.1
  have hlk : lkOk (a_t a) (a_lk a) := hM.2.1.1
  cases hw_k : wiB x1 (nI 0) (nI (a_n a) - nI 1) with
  | false =>
    exact pz_t (k := 1) ⟨by omega, by omega⟩ hM hg (w_operation_1 (t_operation_1 hB hw_k hst)) (fun N hN => m_operation_1 hN hw_k)
  | true =>
    obtain ⟨k, hk, rfl⟩ := wi_op hn60 hw_k
    cases hw_w : wiB x2 (nI 0) (nI 10) with
    | false =>
      exact pz_t (k := 2) ⟨by omega, by omega⟩ hM hg (w_operation_2 (t_operation_2 hB hk hw_w hst)) (fun N hN => m_operation_2 hN hk hw_w)
    | true =>
      obtain ⟨w, hlo_w, hhi_w, rfl⟩ := wi_ex (by omega) (by omega) hw_w
      exact pz_0 (P := (fun r => r = opA a k w)) (a1 := a) (W1 := W) hM eq_u hg (w_operation_0 (b_operation_0 hB hk (show w < 11 by omega)) (Nat.le_of_ble_eq_true rfl) (Nat.le_of_ble_eq_true rfl) rfl rfl) (fun N hN => m_operation_0 hN hk (show w < 11 by omega)) (fun M2 h2 => ⟨a, RelM_W h2 (by omega), fun N hN => RelB_W hN (by omega)⟩)
set_option maxRecDepth 100000 in
theorem p_ifSwitched {l : Launch} {E : Ee} {M : Mm} {W : Nat} (hst : l.stackTraces = false) (hI : INV M W) (hWW : W < 1000) (x1 : Int32) : PAIR l E yL_ifSwitched (.codeWith yL_ifSwitched cL_ifSwitched 4 (some .int) wh_ifSwitched :: gl) yX9_ifSwitched (.code yX9_ifSwitched cX9_ifSwitched 2 (some .int) :: gl) ({ frames := 5, cells := 0, slots := 0, locals := 115 } : Room) M [.int x1] W := by
  obtain ⟨a0, hB0, hM0⟩ := hI
  have hB : RelB M (gz a0 M) W := RelB_gz hB0
  have hM : RelM M (gz a0 M) W := hM0
  have hg : a_g (gz a0 M) = M := rfl
  generalize gz a0 M = a at hB hM hg
  have hn60 : a_n a ≤ 60 := hB.1.1
  have hl40 : a_ln a ≤ 40 := hM.2.2.2.1.2.1
  have hlk : lkOk (a_t a) (a_lk a) := hM.2.1.1
  cases hw_k : wiB x1 (nI 0) (nI (a_n a) - nI 1) with
  | false =>
    exact pz_t (k := 1) ⟨by omega, by omega⟩ hM hg (w_ifSwitched_1 (t_ifSwitched_1 hB hw_k hst)) (fun N hN => m_ifSwitched_1 hN hw_k)
  | true =>
    obtain ⟨k, hk, rfl⟩ := wi_op hn60 hw_k
    exact pz_0 (P := (fun r => r = nI (dfC (clA a) (colA (a_op a) (a_C a) (fun i => if i = k then !a_ac a i else a_ac a i) (a_n a) (nI (a_t a)))))) (a1 := a) (W1 := W) hM eq_u hg (w_ifSwitched_0 (b_ifSwitched_0 hB hk) (Nat.le_of_ble_eq_true rfl) (Nat.le_of_ble_eq_true rfl) rfl rfl) (fun N hN => m_ifSwitched_0 hN hk) (fun M2 h2 => ⟨a, RelM_W h2 (by omega), fun N hN => RelB_W hN (by omega)⟩)
set_option maxRecDepth 100000 in
theorem p_user {l : Launch} {E : Ee} {M : Mm} {W : Nat} (hst : l.stackTraces = false) (hI : INV M W) (hWW : W < 1000) (x1 x2 : Int32) : PAIR l E yL_user (.codeWith yL_user cL_user 5 (some .int) wh_user :: gl) yX9_user (.code yX9_user cX9_user 3 (some .int) :: gl) ({ frames := 5, cells := 0, slots := 0, locals := 115 } : Room) M [.int x1, .int x2] W := by
  obtain ⟨a0, hB0, hM0⟩ := hI
  have hB : RelB M (gz a0 M) W := RelB_gz hB0
  have hM : RelM M (gz a0 M) W := hM0
  have hg : a_g (gz a0 M) = M := rfl
  generalize gz a0 M = a at hB hM hg
  have hn60 : a_n a ≤ 60 := hB.1.1
  have hl40 : a_ln a ≤ 40 := hM.2.2.2.1.2.1
  have hlk : lkOk (a_t a) (a_lk a) := hM.2.1.1
  cases hw_u : wiB x1 (nI 0) (nI 4) with
  | false =>
    exact pz_t (k := 1) ⟨by omega, by omega⟩ hM hg (w_user_1 (t_user_1 hB hw_u hst)) (fun N hN => m_user_1 hN hw_u)
  | true =>
    obtain ⟨u, hlo_u, hhi_u, rfl⟩ := wi_ex (by omega) (by omega) hw_u
    cases hw_w : wiB x2 (nI 0) (nI 4) with
    | false =>
      exact pz_t (k := 2) ⟨by omega, by omega⟩ hM hg (w_user_2 (t_user_2 hB (show u < 5 by omega) hw_w hst)) (fun N hN => m_user_2 hN (show u < 5 by omega) hw_w)
    | true =>
      obtain ⟨w, hlo_w, hhi_w, rfl⟩ := wi_ex (by omega) (by omega) hw_w
      exact pz_0 (P := (fun r => r = usA a u w)) (a1 := a) (W1 := W) hM eq_u hg (w_user_0 (b_user_0 hB (show u < 5 by omega) (show w < 5 by omega) hWW) (Nat.le_of_ble_eq_true rfl) (Nat.le_of_ble_eq_true rfl) rfl rfl) (fun N hN => m_user_0 hN (show u < 5 by omega) (show w < 5 by omega) hWW) (fun M2 h2 => ⟨a, RelM_W h2 (by omega), fun N hN => RelB_W hN (by omega)⟩)
