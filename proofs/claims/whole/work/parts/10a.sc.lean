/-! Scene: cell b (left b + 1, tops b + 2, colors b + 3, onTop b + 4), the set left of operation i: cell b + 5 + 2 i -/
def famL (b n : Nat) (LS : Nat → Nat → Bool) (M : Mm) : Mm := fam (b + 6) 2 n (fun i => rowsOf (LS i)) M
theorem famL_in {b n i : Nat} {LS : Nat → Nat → Bool} {M : Mm} (hi : i < n) : (famL b n LS M).1 (b + 5 + 2 * i + 1) = rowsOf (LS i) := by
  rw [show b + 5 + 2 * i + 1 = b + 6 + 2 * i by omega]
  exact fam_in (by omega) hi
theorem famL_out {b n a : Nat} {LS : Nat → Nat → Bool} {M : Mm} (h : a < b + 6 ∨ b + 6 + 2 * n ≤ a) : (famL b n LS M).1 a = M.1 a := fam_out (fun i hi => by omega)
theorem famL_2 {b n : Nat} {LS : Nat → Nat → Bool} {M : Mm} : (famL b n LS M).2 = M.2 := rfl
theorem famL_cong {b n : Nat} {LS LT : Nat → Nat → Bool} {M : Mm} (h : ∀ i, i < n → LS i = LT i) : famL b n LS M = famL b n LT M := by
  refine mm_ext (fun a => ?_) rfl
  by_cases q : ∃ i, i < n ∧ a = b + 6 + 2 * i
  · obtain ⟨i, hi, rfl⟩ := q
    unfold famL
    rw [fam_in (by omega) hi, fam_in (by omega) hi, h i hi]
  · unfold famL
    rw [fam_out (fun i hi e => q ⟨i, hi, e⟩), fam_out (fun i hi e => q ⟨i, hi, e⟩)]
theorem famL_set {b n j : Nat} {LS : Nat → Nat → Bool} {S : Nat → Bool} {M : Mm} (hj : j < n) : wA (famL b n LS M) (b + 5 + 2 * j + 1) (rowsOf S) = famL b n (fun i => if i = j then S else LS i) M := by
  refine mm_ext (fun a => ?_) rfl
  by_cases q : ∃ i, i < n ∧ a = b + 6 + 2 * i
  · obtain ⟨i, hi, rfl⟩ := q
    by_cases e : i = j
    · subst e
      unfold famL
      rw [fam_in (by omega) hi, show b + 5 + 2 * i + 1 = b + 6 + 2 * i by omega, wA_s]
      simp
    · unfold famL
      rw [fam_in (by omega) hi, wA_n (by omega), fam_in (by omega) hi]
      simp [e]
  · rw [wA_n (fun e => q ⟨j, hj, by omega⟩)]
    unfold famL
    rw [fam_out (fun i hi e => q ⟨i, hi, e⟩), fam_out (fun i hi e => q ⟨i, hi, e⟩)]
theorem famL_next {b k : Nat} {LS : Nat → Nat → Bool} {S : Nat → Bool} {M : Mm} : wA (famL b k LS M) (b + 5 + 2 * k + 1) (rowsOf S) = famL b (k + 1) (fun i => if i = k then S else LS i) M := by
  have h := fam_s (b := b + 6) (d := 2) (i := k) (g := fun i => rowsOf (if i = k then S else LS i)) (M := M) (by omega)
  simp only [if_true] at h
  rw [show b + 6 + 2 * k = b + 5 + 2 * k + 1 by omega] at h
  unfold famL
  rw [← h]
  congr 1
  exact famL_cong (LT := fun i => if i = k then S else LS i) (fun i hi => by
    show LS i = if i = k then S else LS i
    rw [if_neg (by omega)])
theorem famL_0 {b : Nat} {LS : Nat → Nat → Bool} {M : Mm} : famL b 0 LS M = M := fam_0 _ _ _ _
def erS (p : Int32) (same : Bool) (S D : Nat → Bool) : Nat → Bool := if p = nI 1 then (if exB 256 (fun c => S c && D c) = true then (fun _ => false) else S) else if p = 0 ∨ same = true then (fun c => S c && !D c) else S
theorem erS_a {p : Int32} {s : Bool} {S D : Nat → Bool} (h : p = nI 1) (hx : exB 256 (fun c => S c && D c) = true) : erS p s S D = (fun _ => false) := by simp only [erS, h, hx, if_true]
theorem erS_b {p : Int32} {s : Bool} {S D : Nat → Bool} (h : p = nI 1) (hx : exB 256 (fun c => S c && D c) = false) : erS p s S D = S := by simp only [erS, h, hx, if_true, Bool.false_eq_true, if_false]
theorem erS_c {p : Int32} {s : Bool} {S D : Nat → Bool} (h : ¬ p = nI 1) (h0 : p = 0 ∨ s = true) : erS p s S D = (fun c => S c && !D c) := by unfold erS; rw [if_neg h, if_pos h0]
theorem erS_e {p : Int32} {s : Bool} {S D : Nat → Bool} (h : ¬ p = nI 1) (h0 : ¬ p = 0) (hs : s = false) : erS p s S D = S := by unfold erS; rw [if_neg h, if_neg (by rintro (q | q); exact h0 q; rw [hs] at q; cases q)]
theorem famL_setE {b n j : Nat} {LS : Nat → Nat → Bool} {S X : Nat → Bool} {M : Mm} (hj : j < n) (h : X = S) : wA (famL b n LS M) (b + 5 + 2 * j + 1) (rowsOf S) = famL b n (fun i => if i = j then X else LS i) M := by rw [h, famL_set hj]
theorem famL_keep {b n j : Nat} {LS : Nat → Nat → Bool} {X : Nat → Bool} {M : Mm} (h : X = LS j) : famL b n LS M = famL b n (fun i => if i = j then X else LS i) M := famL_cong (fun i hi => by
  by_cases e : i = j
  · subst e; simp [h]
  · simp [e])
def teF (M : Mm) (C : Nat → Nat → Bool) (k : Nat) (LS : Nat → Nat → Bool) : Nat → Nat → Bool := if M.1 (7 + 3 * k) 0 = nI 2 then (fun j => if j < k ∧ M.1 (7 + 3 * j) 2 ≤ M.1 (7 + 3 * k) 2 then erS (M.1 (7 + 3 * k) 3) (decide (M.1 (7 + 3 * j) 1 = M.1 (7 + 3 * k) 1)) (LS j) (C k) else LS j) else (fun j => if j = k then C k else LS j)
def goB (M : Mm) (sw : Int32) (k : Nat) : Bool := !decide (M.1 (7 + 3 * k) 6 = (if nI k = sw then nI 1 else nI 0))
def LSf (M : Mm) (C : Nat → Nat → Bool) (sw : Int32) : Nat → Nat → Nat → Bool
  | 0 => fun _ _ => false
  | k + 1 => if goB M sw k = true then teF M C k (fun j => if j = k then (fun _ => false) else LSf M C sw k j) else (fun j => if j = k then (fun _ => false) else LSf M C sw k j)
/-- painted over: the values of the operations of layer l, the first k -/
def ptK (la : Nat → Int32) (vn : Nat → Bool) (LS : Nat → Nat → Bool) (val : Nat → Int32) (l : Nat) (T : Nat → Int32) : Nat → Nat → Int32
  | 0 => T
  | k + 1 => if la k = nI l ∧ vn k = false then (fun c => if LS k c = true then val k else ptK la vn LS val l T k c) else ptK la vn LS val l T k
def ptLy (la : Nat → Int32) (vn : Nat → Bool) (LS : Nat → Nat → Bool) (val : Nat → Int32) (n : Nat) (T : Nat → Int32) : Nat → Nat → Int32
  | 0 => T
  | l + 1 => ptK la vn LS val l (ptLy la vn LS val n T l) n
def OF (T : Nat → Int32) (i k : Nat) : Int32 := if k < 60 then nI (fb_ct (fun c => decide (T c = nI k)) i) else nI 0
def shTop (M : Mm) (C : Nat → Nat → Bool) (n : Nat) (t sw : Int32) : Nat → Int32 := ptLy (fun k => M.1 (7 + 3 * k) 2) (fun k => vanI (M.1 (7 + 3 * k) 4) (M.1 (7 + 3 * k) 5) t) (LSf M C sw n) nI n (fun _ => -1) 3
def shCol (M : Mm) (C : Nat → Nat → Bool) (n : Nat) (t sw : Int32) : Nat → Int32 := ptLy (fun k => M.1 (7 + 3 * k) 2) (fun k => vanI (M.1 (7 + 3 * k) 4) (M.1 (7 + 3 * k) 5) t) (LSf M C sw n) (fun k => M.1 (7 + 3 * k) 3) n (fun _ => nI 0) 3
def shM (M : Mm) (b : Nat) (C : Nat → Nat → Bool) (n : Nat) (t sw : Int32) : Mm := wA (wA (wA (famL b n (LSf M C sw n) M) (b + 2) (shTop M C n t sw)) (b + 3) (shCol M C n t sw)) (b + 4) (OF (shTop M C n t sw) 256)
theorem pr_step {y i : Nat} {S : Nat → Bool} {v : Int32} {g : Nat → Int32} (hs : S (16 * y + i) = true) (hi : i < 16) : upd (fun c => if c / 16 = y ∧ c % 16 < i ∧ S c = true then v else g c) (16 * y + i) v = (fun c => if c / 16 = y ∧ c % 16 < i + 1 ∧ S c = true then v else g c) := by
  funext c
  by_cases h : c = 16 * y + i
  · subst h
    have e1 : (16 * y + i) / 16 = y := by omega
    have e2 : (16 * y + i) % 16 = i := by omega
    simp [upd, e1, e2, hs]
  · simp only [upd, if_neg h]
    by_cases q : c / 16 = y ∧ c % 16 < i ∧ S c = true
    · rw [if_pos q, if_pos ⟨q.1, by omega, q.2.2⟩]
    · rw [if_neg q, if_neg (fun w => q ⟨w.1, by omega, w.2.2⟩)]
theorem pr_skip {y i : Nat} {S : Nat → Bool} {v : Int32} {g : Nat → Int32} (hs : S (16 * y + i) = false) (hi : i < 16) : (fun c => if c / 16 = y ∧ c % 16 < i ∧ S c = true then v else g c) = (fun c => if c / 16 = y ∧ c % 16 < i + 1 ∧ S c = true then v else g c) := by
  funext c
  by_cases h : c = 16 * y + i
  · subst h
    rw [if_neg (fun w => by rw [hs] at w; exact absurd w.2.2 (by decide)), if_neg (fun w => by rw [hs] at w; exact absurd w.2.2 (by decide))]
  · by_cases q : c / 16 = y ∧ c % 16 < i ∧ S c = true
    · rw [if_pos q, if_pos ⟨q.1, by omega, q.2.2⟩]
    · rw [if_neg q, if_neg (fun w => q ⟨w.1, by omega, w.2.2⟩)]
theorem pr_0 {y : Nat} {S : Nat → Bool} {v : Int32} (g : Nat → Int32) : g = (fun c => if c / 16 = y ∧ c % 16 < 0 ∧ S c = true then v else g c) := by
  funext c
  rw [if_neg (by omega)]
theorem pr_e {y : Nat} {S : Nat → Bool} {v : Int32} {g : Nat → Int32} : (fun c => if c / 16 = y ∧ c % 16 < 16 ∧ S c = true then v else g c) = (fun c => if c / 16 = y ∧ S c = true then v else g c) := by
  funext c
  by_cases q : c / 16 = y ∧ S c = true
  · rw [if_pos q, if_pos ⟨q.1, by omega, q.2⟩]
  · rw [if_neg q, if_neg (fun w => q ⟨w.1, w.2.2⟩)]
theorem pq_step {i : Nat} {S : Nat → Bool} {v : Int32} {g : Nat → Int32} : (fun c => if c / 16 = i ∧ S c = true then v else (if c / 16 < i ∧ S c = true then v else g c)) = (fun c => if c / 16 < i + 1 ∧ S c = true then v else g c) := by
  funext c
  by_cases q : c / 16 = i ∧ S c = true
  · rw [if_pos q, if_pos ⟨by omega, q.2⟩]
  · rw [if_neg q]
    by_cases w : c / 16 < i ∧ S c = true
    · rw [if_pos w, if_pos ⟨by omega, w.2⟩]
    · rw [if_neg w, if_neg (fun z => by
        rcases Nat.lt_or_ge (c / 16) i with a | a
        · exact w ⟨a, z.2⟩
        · exact q ⟨by omega, z.2⟩)]
theorem pq_skip {i : Nat} {S : Nat → Bool} {v : Int32} {g : Nat → Int32} (h : ∀ x, x < 16 → S (16 * i + x) = false) : (fun c => if c / 16 < i ∧ S c = true then v else g c) = (fun c => if c / 16 < i + 1 ∧ S c = true then v else g c) := by
  rw [← pq_step]
  funext c
  rw [if_neg (c := c / 16 = i ∧ S c = true)]
  rintro ⟨a, b⟩
  have := h (c % 16) (by omega)
  rw [show 16 * i + c % 16 = c by omega, b] at this
  cases this
theorem wA_comm {M : Mm} {j k : Nat} {f g : Nat → Int32} (h : j ≠ k) : wA (wA M j f) k g = wA (wA M k g) j f := by
  refine mm_ext (fun a => ?_) rfl
  by_cases h1 : a = k
  · subst h1
    rw [wA_s, wA_n (Ne.symm h), wA_s]
  · by_cases h2 : a = j
    · subst h2
      rw [wA_n h1, wA_s, wA_s]
    · rw [wA_n h1, wA_n h2, wA_n h2, wA_n h1]
theorem two_step {M : Mm} {j k i : Nat} {f g : Nat → Int32} {u v : Int32} (h : j ≠ k) : wA (wA (wA (wA M j f) k g) j (upd ((wA (wA M j f) k g).1 j) i u)) k (upd ((wA (wA (wA M j f) k g) j (upd ((wA (wA M j f) k g).1 j) i u)).1 k) i v) = wA (wA M j (upd f i u)) k (upd g i v) := by
  have e1 : (wA (wA M j f) k g).1 j = f := by rw [wA_n h, wA_s]
  have e2 : (wA (wA (wA M j f) k g) j (upd f i u)).1 k = g := by rw [wA_n (Ne.symm h), wA_s]
  rw [e1, e2, wA_comm (Ne.symm h), wA_wA, wA_wA]
theorem two_over {M : Mm} {j k : Nat} {f g u v : Nat → Int32} (h : j ≠ k) : wA (wA (wA (wA M j f) k g) j u) k v = wA (wA M j u) k v := by
  rw [wA_comm (Ne.symm h), wA_wA, wA_wA]
theorem OF_0 (T : Nat → Int32) : (fun _ => nI 0) = OF T 0 := by
  funext k
  unfold OF
  split <;> rfl
theorem OF_put {T : Nat → Int32} {i a : Nat} (ha : a < 60) (hT : T i = nI a) : upd (OF T i) a (OF T i a + nI 1) = OF T (i + 1) := by
  funext k
  by_cases h : k = a
  · subst h
    simp only [upd, if_true, OF, ha, nI_add]
    rw [fb_ct_succ]
    simp [hT]
  · simp only [upd, if_neg h, OF]
    by_cases q : k < 60
    · have : ¬ nI a = nI k := fun e => h ((nI_eq (by omega) (by omega)).mp e).symm
      simp only [q, if_true]
      rw [fb_ct_succ]
      simp [hT, this]
    · simp [q]
theorem OF_skip {T : Nat → Int32} {i : Nat} (h : ∀ k, k < 60 → ¬ T i = nI k) : OF T i = OF T (i + 1) := by
  funext k
  simp only [OF]
  by_cases q : k < 60
  · simp only [q, if_true]
    rw [fb_ct_succ]
    simp [h k q]
  · simp [q]
set_option maxRecDepth 100000 in
set_option maxHeartbeats 1000000 in
theorem c_X7_eraseFrom {l : Launch} {E : Ee} {M : Mm} {b n : Nat} {LS C : Nat → Nat → Bool} (hs : isSc b) {j k : Nat} {ow : Int32} (hj : j < n) (hn : n ≤ 60) (hk : k < 60) (hC : ∀ i, i < 60 → M.1 (7 + 3 * i + 1 + 1) = rowsOf (C i)) : CtV l E yX7_eraseFrom (.code yX7_eraseFrom cX7_eraseFrom 4 none :: gl) ({ frames := 1, cells := 0, slots := 0, locals := 22 } : Room) (famL b n LS M) [.ref (E.2.2 b), .int (nI j), .int ow, .ref (E.2.2 (7 + 3 * k))] 0 0 (fun M2 => M2 = famL b n (fun i => if i = j then erS (M.1 (7 + 3 * k) 3) (decide (ow = M.1 (7 + 3 * k) 1)) (LS j) (C k) else LS i) M) := by
  refine ctV_of (L0 := [some (.ref (E.2.2 b)), some (.int (nI j)), some (.int ow), some (.ref (E.2.2 (7 + 3 * k)))]) (by decide) rfl (Nat.le_of_ble_eq_true rfl) rfl ?_
  intro Z hl hE hnl F ret
  subst hE
  have in_X4 : ∀ w ∈ u_ws RX4 TX4 9, w ∈ (.code yX7_eraseFrom cX7_eraseFrom 4 none :: gl) := fun w h => List.mem_cons_of_mem _ (lay_X4 w h)
  have in_X7 : ∀ w ∈ u_ws RX7 TX7 4, w ∈ (.code yX7_eraseFrom cX7_eraseFrom 4 none :: gl) := fun w h => List.mem_cons_of_mem _ (lay_X7 w h)
  have g11 : FG Z 11 7 0 := fg_mk F (C := RX7) (T := TX7) (N := 4) in_X7 rfl (by decide) rfl (List.mem_cons_of_mem _ fk_X7_11)
  have g61 : FG Z 61 4 3 := fg_mk F (C := RX4) (T := TX4) (N := 9) in_X4 rfl (by decide) rfl (List.mem_cons_of_mem _ fk_X7_61)
  have g73 : FG Z 73 4 8 := fg_mk F (C := RX4) (T := TX4) (N := 9) in_X4 rfl (by decide) rfl (List.mem_cons_of_mem _ fk_X7_73)
  have g81 : FG Z 81 4 1 := fg_mk F (C := RX4) (T := TX4) (N := 9) in_X4 rfl (by decide) rfl (List.mem_cons_of_mem _ fk_X7_81)
  have k0 := kd_sc0 hs
  have k1 := kd_sc1 hs
  have k2 := kd_sc2 hs
  have k3 := kd_sc3 hs
  have k4 := kd_sc4 hs
  have hbb : b = 204 ∨ b = 329 := hs
  have hLj : (famL b n LS M).1 (b + 5 + 2 * j + 1) = rowsOf (LS j) := famL_in hj
  have hCk : (famL b n LS M).1 (7 + 3 * k + 1 + 1) = rowsOf (C k) := by rw [famL_out (by omega)]; exact hC k hk
  have eo : (famL b n LS M).1 (7 + 3 * k) = M.1 (7 + 3 * k) := famL_out (by omega)
  have csj := cs_sc hs j (by omega)
  obtain ⟨j0, j1⟩ := id csj
  have csk := cs_op k hk
  obtain ⟨c0, c1⟩ := id csk
  have ko := kd_op k hk
  refine jj_aload_n F dX7_eraseFrom_0 rfl ?_
  refine jj_geti F g61 (by assumption) (by rfl) dX7_eraseFrom_1 ?_
  rw [eo]
  refine jj_iconst F (v := nI 1) dX7_eraseFrom_4 (by decide) ?_
  refine jj_icmp_ne F (tgt := 36) dX7_eraseFrom_5 (by decide) (fun h5 => ?_) (fun h5 => ?_)
  · refine jj_aload_n F dX7_eraseFrom_36 rfl ?_
    refine jj_geti F g61 (by assumption) (by rfl) dX7_eraseFrom_37 ?_
    rw [eo]
    refine jj_if_eq F (tgt := 51) dX7_eraseFrom_40 (by decide) (fun h40 => ?_) (fun h40 => ?_)
    · refine jj_aload_n F dX7_eraseFrom_51 rfl ?_
      refine jj_getr F g11 (by assumption) (by rfl) dX7_eraseFrom_52 ?_
      refine jj_iload_n F dX7_eraseFrom_55 rfl ?_
      refine jj_aald F (by assumption) rfl (by omega) dX7_eraseFrom_56 ?_
      refine jj_aload_n F dX7_eraseFrom_57 rfl ?_
      refine jj_getr F g73 (by assumption) (by rfl) dX7_eraseFrom_58 ?_
      refine jj_callVv (na := 1) F (c_X0_takeAway csj csk (by omega) hLj hCk) (gl_V mk_X7_92 vw_X0_takeAway) rfl rfl rfl (by decide +kernel) ⟨Nat.le_of_ble_eq_true rfl, Nat.le_of_ble_eq_true rfl⟩ (by assumption) rfl rfl rfl (Nat.le_of_ble_eq_true rfl) ⟨Nat.le_of_ble_eq_true rfl, Nat.le_of_ble_eq_true rfl⟩ dX7_eraseFrom_61 (fun M61 hp61 => ?_)
      obtain rfl := hp61.symm
      refine ret _ _ _ dX7_eraseFrom_64 ?_
      first
      | exact famL_setE hj (erS_a h5 ((b2i_n0 _).mp h21))
      | exact famL_keep (erS_b h5 ((b2i_0 _).mp h21))
      | exact famL_setE hj (erS_c h5 (Or.inl h40))
      | exact famL_setE hj (erS_c h5 (Or.inr (decide_eq_true h48)))
      | exact famL_keep (erS_e h5 h40 (decide_eq_false h48))
    · refine jj_iload_n F dX7_eraseFrom_43 rfl ?_
      refine jj_aload_n F dX7_eraseFrom_44 rfl ?_
      refine jj_geti F g81 (by assumption) (by rfl) dX7_eraseFrom_45 ?_
      rw [eo]
      refine jj_icmp_ne F (tgt := 64) dX7_eraseFrom_48 (by decide) (fun h48 => ?_) (fun h48 => ?_)
      · refine ret _ _ _ dX7_eraseFrom_64 ?_
        first
        | exact famL_setE hj (erS_a h5 ((b2i_n0 _).mp h21))
        | exact famL_keep (erS_b h5 ((b2i_0 _).mp h21))
        | exact famL_setE hj (erS_c h5 (Or.inl h40))
        | exact famL_setE hj (erS_c h5 (Or.inr (decide_eq_true h48)))
        | exact famL_keep (erS_e h5 h40 (decide_eq_false h48))
      · refine jj_aload_n F dX7_eraseFrom_51 rfl ?_
        refine jj_getr F g11 (by assumption) (by rfl) dX7_eraseFrom_52 ?_
        refine jj_iload_n F dX7_eraseFrom_55 rfl ?_
        refine jj_aald F (by assumption) rfl (by omega) dX7_eraseFrom_56 ?_
        refine jj_aload_n F dX7_eraseFrom_57 rfl ?_
        refine jj_getr F g73 (by assumption) (by rfl) dX7_eraseFrom_58 ?_
        refine jj_callVv (na := 1) F (c_X0_takeAway csj csk (by omega) hLj hCk) (gl_V mk_X7_92 vw_X0_takeAway) rfl rfl rfl (by decide +kernel) ⟨Nat.le_of_ble_eq_true rfl, Nat.le_of_ble_eq_true rfl⟩ (by assumption) rfl rfl rfl (Nat.le_of_ble_eq_true rfl) ⟨Nat.le_of_ble_eq_true rfl, Nat.le_of_ble_eq_true rfl⟩ dX7_eraseFrom_61 (fun M61 hp61 => ?_)
        obtain rfl := hp61.symm
        refine ret _ _ _ dX7_eraseFrom_64 ?_
        first
        | exact famL_setE hj (erS_a h5 ((b2i_n0 _).mp h21))
        | exact famL_keep (erS_b h5 ((b2i_0 _).mp h21))
        | exact famL_setE hj (erS_c h5 (Or.inl h40))
        | exact famL_setE hj (erS_c h5 (Or.inr (decide_eq_true h48)))
        | exact famL_keep (erS_e h5 h40 (decide_eq_false h48))
  · refine jj_aload_n F dX7_eraseFrom_8 rfl ?_
    refine jj_getr F g11 (by assumption) (by rfl) dX7_eraseFrom_9 ?_
    refine jj_iload_n F dX7_eraseFrom_12 rfl ?_
    refine jj_aald F (by assumption) rfl (by omega) dX7_eraseFrom_13 ?_
    refine jj_aload_n F dX7_eraseFrom_14 rfl ?_
    refine jj_getr F g73 (by assumption) (by rfl) dX7_eraseFrom_15 ?_
    refine jj_callVi (na := 1) F (c_X0_meets (by assumption) (by assumption) (by assumption) (by assumption)) (gl_V mk_X7_88 vw_X0_meets) rfl rfl rfl (by decide +kernel) ⟨Nat.le_of_ble_eq_true rfl, Nat.le_of_ble_eq_true rfl⟩ (by assumption) rfl rfl rfl (Nat.le_of_ble_eq_true rfl) ⟨Nat.le_of_ble_eq_true rfl, Nat.le_of_ble_eq_true rfl⟩ dX7_eraseFrom_18 (fun r18 M18 hp18 => ?_)
    obtain ⟨rfl, rfl⟩ := symm2 hp18
    refine jj_if_eq F (tgt := 64) dX7_eraseFrom_21 (by decide) (fun h21 => ?_) (fun h21 => ?_)
    · refine ret _ _ _ dX7_eraseFrom_64 ?_
      first
      | exact famL_setE hj (erS_a h5 ((b2i_n0 _).mp h21))
      | exact famL_keep (erS_b h5 ((b2i_0 _).mp h21))
      | exact famL_setE hj (erS_c h5 (Or.inl h40))
      | exact famL_setE hj (erS_c h5 (Or.inr (decide_eq_true h48)))
      | exact famL_keep (erS_e h5 h40 (decide_eq_false h48))
    · refine jj_aload_n F dX7_eraseFrom_24 rfl ?_
      refine jj_getr F g11 (by assumption) (by rfl) dX7_eraseFrom_25 ?_
      refine jj_iload_n F dX7_eraseFrom_28 rfl ?_
      refine jj_aald F (by assumption) rfl (by omega) dX7_eraseFrom_29 ?_
      refine jj_callVv (na := 0) F (c_X0_becomeEmpty (by assumption)) (gl_V mk_X7_34 vw_X0_becomeEmpty) rfl rfl rfl (by decide +kernel) ⟨Nat.le_of_ble_eq_true rfl, Nat.le_of_ble_eq_true rfl⟩ (by assumption) rfl rfl rfl (Nat.le_of_ble_eq_true rfl) ⟨Nat.le_of_ble_eq_true rfl, Nat.le_of_ble_eq_true rfl⟩ dX7_eraseFrom_30 (fun M30 hp30 => ?_)
      obtain rfl := hp30.symm
      refine jj_goto F (tgt := 64) dX7_eraseFrom_33 (by decide) ?_
      refine ret _ _ _ dX7_eraseFrom_64 ?_
      first
      | exact famL_setE hj (erS_a h5 ((b2i_n0 _).mp h21))
      | exact famL_keep (erS_b h5 ((b2i_0 _).mp h21))
      | exact famL_setE hj (erS_c h5 (Or.inl h40))
      | exact famL_setE hj (erS_c h5 (Or.inr (decide_eq_true h48)))
      | exact famL_keep (erS_e h5 h40 (decide_eq_false h48))
set_option maxRecDepth 100000 in
set_option maxHeartbeats 1000000 in
theorem c_X7_takeEffect {l : Launch} {E : Ee} {M : Mm} {b k : Nat} {LS C : Nat → Nat → Bool} (hs : isSc b) (hk : k < 60) (hC : ∀ i, i < 60 → M.1 (7 + 3 * i + 1 + 1) = rowsOf (C i)) : CtV l E yX7_takeEffect (.code yX7_takeEffect cX7_takeEffect 5 none :: gl) ({ frames := 2, cells := 0, slots := 0, locals := 45 } : Room) (famL b (k + 1) LS M) [.ref (E.2.2 b), .ref (E.2.2 5), .int (nI k)] 0 0 (fun M2 => M2 = famL b (k + 1) (teF M C k LS) M) := by
  refine ctV_of (L0 := [some (.ref (E.2.2 b)), some (.ref (E.2.2 5)), some (.int (nI k)), none, none]) (by decide) rfl (Nat.le_of_ble_eq_true rfl) rfl ?_
  intro Z hl hE hnl F ret
  subst hE
  have in_X2 : ∀ w ∈ u_ws RX2 TX2 3, w ∈ (.code yX7_takeEffect cX7_takeEffect 5 none :: gl) := fun w h => List.mem_cons_of_mem _ (lay_X2 w h)
  have in_X4 : ∀ w ∈ u_ws RX4 TX4 9, w ∈ (.code yX7_takeEffect cX7_takeEffect 5 none :: gl) := fun w h => List.mem_cons_of_mem _ (lay_X4 w h)
  have in_X7 : ∀ w ∈ u_ws RX7 TX7 4, w ∈ (.code yX7_takeEffect cX7_takeEffect 5 none :: gl) := fun w h => List.mem_cons_of_mem _ (lay_X7 w h)
  have g11 : FG Z 11 7 0 := fg_mk F (C := RX7) (T := TX7) (N := 4) in_X7 rfl (by decide) rfl (List.mem_cons_of_mem _ fk_X7_11)
  have g37 : FG Z 37 2 0 := fg_mk F (C := RX2) (T := TX2) (N := 3) in_X2 rfl (by decide) rfl (List.mem_cons_of_mem _ fk_X7_37)
  have g54 : FG Z 54 4 2 := fg_mk F (C := RX4) (T := TX4) (N := 9) in_X4 rfl (by decide) rfl (List.mem_cons_of_mem _ fk_X7_54)
  have g70 : FG Z 70 4 0 := fg_mk F (C := RX4) (T := TX4) (N := 9) in_X4 rfl (by decide) rfl (List.mem_cons_of_mem _ fk_X7_70)
  have g73 : FG Z 73 4 8 := fg_mk F (C := RX4) (T := TX4) (N := 9) in_X4 rfl (by decide) rfl (List.mem_cons_of_mem _ fk_X7_73)
  have g81 : FG Z 81 4 1 := fg_mk F (C := RX4) (T := TX4) (N := 9) in_X4 rfl (by decide) rfl (List.mem_cons_of_mem _ fk_X7_81)
  have k0 := kd_sc0 hs
  have k1 := kd_sc1 hs
  have k2 := kd_sc2 hs
  have k3 := kd_sc3 hs
  have k4 := kd_sc4 hs
  have hbb : b = 204 ∨ b = 329 := hs
  have kl := kd_Log
  have ke := kd_ents
  have eo : ∀ (LT : Nat → Nat → Bool) (i : Nat), i < 60 → (famL b (k + 1) LT M).1 (7 + 3 * i) = M.1 (7 + 3 * i) := fun LT i hi => famL_out (by omega)
  have ko := kd_op k hk
  refine jj_aload_n F dX7_takeEffect_0 rfl ?_
  refine jj_getr F g37 (by assumption) (by rfl) dX7_takeEffect_1 ?_
  refine jj_iload_n F dX7_takeEffect_4 rfl ?_
  refine jj_aald F (by assumption) rfl (by omega) dX7_takeEffect_5 ?_
  refine jj_astore_n F dX7_takeEffect_6 (by rw [hnl]; decide) ?_
  dsimp only [lq_st, lq_clr, lq_no]
  refine jj_aload_n F dX7_takeEffect_7 rfl ?_
  refine jj_geti F g70 (by assumption) (by rfl) dX7_takeEffect_8 ?_
  rw [eo _ k hk]
  refine jj_iconst F (v := nI 2) dX7_takeEffect_11 (by decide) ?_
  refine jj_icmp_eq F (tgt := 29) dX7_takeEffect_12 (by decide) (fun h12 => ?_) (fun h12 => ?_)
  · have lo : ∀ i, i ≤ k → JJ Z (0, 0) (famL b (k + 1) (fun j => if j < i ∧ M.1 (7 + 3 * j) 2 ≤ M.1 (7 + 3 * k) 2 then erS (M.1 (7 + 3 * k) 3) (decide (M.1 (7 + 3 * j) 1 = M.1 (7 + 3 * k) 1)) (LS j) (C k) else LS j) M) 32 [some (.ref ((zE Z).2.2 b)), some (.ref ((zE Z).2.2 5)), some (.int (nI k)), some (.ref ((zE Z).2.2 (7 + 3 * k))), some (.int (nI i))] [] := by
      refine jj_loop (k) ?_ ?_
      · refine jj_iload F dX7_takeEffect_32 rfl ?_
        refine jj_iload_n F dX7_takeEffect_34 rfl ?_
        refine jj_icmp_ge F (tgt := 78) dX7_takeEffect_35 (by decide) (fun _ => ?_) (fun h9 => absurd (nI_le (by omega) (by omega)) h9)
        refine ret _ _ _ dX7_takeEffect_78 ?_
        unfold teF
        rw [if_pos h12]
      · intro i hi ih
        have ki := kd_op i (by omega)
        refine jj_iload F dX7_takeEffect_32 rfl ?_
        refine jj_iload_n F dX7_takeEffect_34 rfl ?_
        refine jj_icmp_ge F (tgt := 78) dX7_takeEffect_35 (by decide) (fun h9 => absurd h9 (nI_ge (by omega) (by omega))) (fun _ => ?_)
        refine jj_aload_n F dX7_takeEffect_38 rfl ?_
        refine jj_getr F g37 (by assumption) (by rfl) dX7_takeEffect_39 ?_
        refine jj_iload F dX7_takeEffect_42 rfl ?_
        refine jj_aald F (by assumption) rfl (by omega) dX7_takeEffect_44 ?_
        refine jj_geti F g54 (by assumption) (by rfl) dX7_takeEffect_45 ?_
        rw [eo _ i (by omega)]
        refine jj_aload_n F dX7_takeEffect_48 rfl ?_
        refine jj_geti F g54 (by assumption) (by rfl) dX7_takeEffect_49 ?_
        rw [eo _ k (by omega)]
        refine jj_icmp_gt F (tgt := 72) dX7_takeEffect_52 (by decide) (fun h52 => ?_) (fun h52 => ?_)
        · refine jj_iinc F dX7_takeEffect_72 rfl (by first | exact iinc1 _ | rfl) (by rw [hnl]; decide) ?_
          dsimp only [lq_st, lq_clr, lq_no]
          refine jj_goto F (tgt := 32) dX7_takeEffect_75 (by decide) ?_
          refine jj_eqM (famL_cong (fun j hj => ?_)) ih
          first
          | (by_cases q : j = i; (subst q; simp [i32_lt_nle h52]); simp [q, show (j < i + 1) = (j < i) by simp; omega]; done)
          | (by_cases q : j = i; (subst q; simp [i32_nlt h52]); simp [q, show (j < i + 1) = (j < i) by simp; omega]; done)
        · refine jj_aload_n F dX7_takeEffect_55 rfl ?_
          refine jj_iload F dX7_takeEffect_56 rfl ?_
          refine jj_aload_n F dX7_takeEffect_58 rfl ?_
          refine jj_getr F g37 (by assumption) (by rfl) dX7_takeEffect_59 ?_
          refine jj_iload F dX7_takeEffect_62 rfl ?_
          refine jj_aald F (by assumption) rfl (by omega) dX7_takeEffect_64 ?_
          refine jj_geti F g81 (by assumption) (by rfl) dX7_takeEffect_65 ?_
          rw [eo _ i (by omega)]
          refine jj_aload_n F dX7_takeEffect_68 rfl ?_
          refine jj_callVv (na := 3) F (c_X7_eraseFrom hs (by omega) (by omega) hk hC) (gl_V mk_X7_84 vw_X7_eraseFrom) rfl rfl rfl (by decide +kernel) ⟨Nat.le_of_ble_eq_true rfl, Nat.le_of_ble_eq_true rfl⟩ (by assumption) rfl rfl rfl (Nat.le_of_ble_eq_true rfl) ⟨Nat.le_of_ble_eq_true rfl, Nat.le_of_ble_eq_true rfl⟩ dX7_takeEffect_69 (fun M69 hp69 => ?_)
          obtain rfl := hp69.symm
          refine jj_iinc F dX7_takeEffect_72 rfl (by first | exact iinc1 _ | rfl) (by rw [hnl]; decide) ?_
          dsimp only [lq_st, lq_clr, lq_no]
          refine jj_goto F (tgt := 32) dX7_takeEffect_75 (by decide) ?_
          refine jj_eqM (famL_cong (fun j hj => ?_)) ih
          first
          | (by_cases q : j = i; (subst q; simp [i32_lt_nle h52]); simp [q, show (j < i + 1) = (j < i) by simp; omega]; done)
          | (by_cases q : j = i; (subst q; simp [i32_nlt h52]); simp [q, show (j < i + 1) = (j < i) by simp; omega]; done)
    refine jj_iconst F (v := nI 0) dX7_takeEffect_29 (by decide) ?_
    refine jj_istore F dX7_takeEffect_30 (by rw [hnl]; decide) ?_
    dsimp only [lq_st, lq_clr, lq_no]
    refine jj_eqM (famL_cong (fun j hj => ?_)) (lo 0 (by omega))
    simp
  · refine jj_aload_n F dX7_takeEffect_15 rfl ?_
    refine jj_getr F g11 (by assumption) (by rfl) dX7_takeEffect_16 ?_
    refine jj_iload_n F dX7_takeEffect_19 rfl ?_
    refine jj_aald F (by assumption) rfl (by omega) dX7_takeEffect_20 ?_
    refine jj_aload_n F dX7_takeEffect_21 rfl ?_
    refine jj_getr F g73 (by assumption) (by rfl) dX7_takeEffect_22 ?_
    have csk := cs_op k hk
    obtain ⟨c0, c1⟩ := id csk
    have csl := cs_sc hs k hk
    obtain ⟨l0, l1⟩ := id csl
    refine jj_callVv (na := 1) F (c_X0_becomeCopy csl csk (by omega)) (gl_V mk_X7_77 vw_X0_becomeCopy) rfl rfl rfl (by decide +kernel) ⟨Nat.le_of_ble_eq_true rfl, Nat.le_of_ble_eq_true rfl⟩ (by assumption) rfl rfl rfl (Nat.le_of_ble_eq_true rfl) ⟨Nat.le_of_ble_eq_true rfl, Nat.le_of_ble_eq_true rfl⟩ dX7_takeEffect_25 (fun M25 hp25 => ?_)
    obtain rfl := hp25.symm
    rw [show (famL b (k + 1) LS M).1 (7 + 3 * k + 1 + 1) = rowsOf (C k) by rw [famL_out (by omega)]; exact hC k hk, famL_set (by omega)]
    refine ret _ _ _ dX7_takeEffect_28 ?_
    unfold teF
    rw [if_neg h12]
