/-! Scene: cell b (left b + 1, tops b + 2, colors b + 3, onTop b + 4), the set left of operation i: cell b + 5 + 2 i -/
def famL (b n : Nat) (LS : Nat → Nat → Bool) (M : Mm) : Mm := fam (b + 6) 2 n (fun i => rowsOf (LS i)) M
theorem famL_in {b n i : Nat} {LS : Nat → Nat → Bool} {M : Mm} (hi : i < n) : (famL b n LS M).1 (b + 5 + 2 * i + 1) = rowsOf (LS i) := by
  rw [show b + 5 + 2 * i + 1 = b + 6 + 2 * i by omega]
  exact fam_in (by omega) hi
theorem famL_out {b n a : Nat} {LS : Nat → Nat → Bool} {M : Mm} (h : a < b + 6 ∨ b + 6 + 2 * n ≤ a) : (famL b n LS M).1 a = M.1 a := fam_out (fun i hi => by omega)
theorem famL_2 {b n : Nat} {LS : Nat → Nat → Bool} {M : Mm} : (famL b n LS M).2 = M.2 := rfl
theorem famL_cong {b n : Nat} {LS LT : Nat → Nat → Bool} {M : Mm} (h : ∀ i, i < n → LS i = LT i) : famL b n LS M = famL b n LT M := by
  refine mm_ext (fun a => ?_) rfl
  by_cases q : ∃ i, i < n ∧ a = b + 6 + 2 * i
  · obtain ⟨i, hi, rfl⟩ := q
    unfold famL
    rw [fam_in (by omega) hi, fam_in (by omega) hi, h i hi]
  · unfold famL
    rw [fam_out (fun i hi e => q ⟨i, hi, e⟩), fam_out (fun i hi e => q ⟨i, hi, e⟩)]
theorem famL_set {b n j : Nat} {LS : Nat → Nat → Bool} {S : Nat → Bool} {M : Mm} (hj : j < n) : wA (famL b n LS M) (b + 5 + 2 * j + 1) (rowsOf S) = famL b n (fun i => if i = j then S else LS i) M := by
  refine mm_ext (fun a => ?_) rfl
  by_cases q : ∃ i, i < n ∧ a = b + 6 + 2 * i
  · obtain ⟨i, hi, rfl⟩ := q
    by_cases e : i = j
    · subst e
      unfold famL
      rw [fam_in (by omega) hi, show b + 5 + 2 * i + 1 = b + 6 + 2 * i by omega, wA_s, if_pos rfl]
    · unfold famL
      rw [fam_in (by omega) hi, wA_n (by omega), fam_in (by omega) hi, if_neg e]
  · rw [wA_n (fun e => q ⟨j, hj, by omega⟩)]
    unfold famL
    rw [fam_out (fun i hi e => q ⟨i, hi, e⟩), fam_out (fun i hi e => q ⟨i, hi, e⟩)]
theorem famL_next {b k : Nat} {LS : Nat → Nat → Bool} {S : Nat → Bool} {M : Mm} : wA (famL b k LS M) (b + 5 + 2 * k + 1) (rowsOf S) = famL b (k + 1) (fun i => if i = k then S else LS i) M := by
  have h := fam_s (b := b + 6) (d := 2) (i := k) (g := fun i => rowsOf (if i = k then S else LS i)) (M := M) (by omega)
  simp only [if_true] at h
  rw [show b + 6 + 2 * k = b + 5 + 2 * k + 1 by omega] at h
  unfold famL
  rw [← h]
  congr 1
  exact famL_cong (LT := fun i => if i = k then S else LS i) (fun i hi => by
    show LS i = if i = k then S else LS i
    rw [if_neg (by omega)])
theorem famL_0 {b : Nat} {LS : Nat → Nat → Bool} {M : Mm} : famL b 0 LS M = M := fam_0 _ _ _ _
def erS (p : Int32) (same : Bool) (S D : Nat → Bool) : Nat → Bool := if p = nI 1 then (if exB 256 (fun c => S c && D c) = true then (fun _ => false) else S) else if p = 0 ∨ same = true then (fun c => S c && !D c) else S
def teF (M : Mm) (C : Nat → Nat → Bool) (k : Nat) (LS : Nat → Nat → Bool) : Nat → Nat → Bool := if M.1 (7 + 3 * k) 0 = nI 2 then (fun j => if j < k ∧ M.1 (7 + 3 * j) 2 ≤ M.1 (7 + 3 * k) 2 then erS (M.1 (7 + 3 * k) 3) (decide (M.1 (7 + 3 * j) 1 = M.1 (7 + 3 * k) 1)) (LS j) (C k) else LS j) else (fun j => if j = k then C k else LS j)
def goB (M : Mm) (sw : Int32) (k : Nat) : Bool := !decide (M.1 (7 + 3 * k) 6 = (if nI k = sw then nI 1 else nI 0))
def LSf (M : Mm) (C : Nat → Nat → Bool) (sw : Int32) : Nat → Nat → Nat → Bool
  | 0 => fun _ _ => false
  | k + 1 => if goB M sw k = true then teF M C k (fun j => if j = k then (fun _ => false) else LSf M C sw k j) else (fun j => if j = k then (fun _ => false) else LSf M C sw k j)
/-- painted over: the values of the operations of layer l, the first k -/
def ptK (la : Nat → Int32) (vn : Nat → Bool) (LS : Nat → Nat → Bool) (val : Nat → Int32) (l : Nat) (T : Nat → Int32) : Nat → Nat → Int32
  | 0 => T
  | k + 1 => if la k = nI l ∧ vn k = false then (fun c => if LS k c = true then val k else ptK la vn LS val l T k c) else ptK la vn LS val l T k
def ptLy (la : Nat → Int32) (vn : Nat → Bool) (LS : Nat → Nat → Bool) (val : Nat → Int32) (n : Nat) (T : Nat → Int32) : Nat → Nat → Int32
  | 0 => T
  | l + 1 => ptK la vn LS val l (ptLy la vn LS val n T l) n
def OF (T : Nat → Int32) (i k : Nat) : Int32 := if k < 60 then nI (fb_ct (fun c => decide (T c = nI k)) i) else nI 0
def shTop (M : Mm) (C : Nat → Nat → Bool) (n : Nat) (t sw : Int32) : Nat → Int32 := ptLy (fun k => M.1 (7 + 3 * k) 2) (fun k => vanI (M.1 (7 + 3 * k) 4) (M.1 (7 + 3 * k) 5) t) (LSf M C sw n) nI n (fun _ => -1) 3
def shCol (M : Mm) (C : Nat → Nat → Bool) (n : Nat) (t sw : Int32) : Nat → Int32 := ptLy (fun k => M.1 (7 + 3 * k) 2) (fun k => vanI (M.1 (7 + 3 * k) 4) (M.1 (7 + 3 * k) 5) t) (LSf M C sw n) (fun k => M.1 (7 + 3 * k) 3) n (fun _ => nI 0) 3
def shM (M : Mm) (b : Nat) (C : Nat → Nat → Bool) (n : Nat) (t sw : Int32) : Mm := wA (wA (wA (famL b n (LSf M C sw n) M) (b + 2) (shTop M C n t sw)) (b + 3) (shCol M C n t sw)) (b + 4) (OF (shTop M C n t sw) 256)
theorem pr_step {y i : Nat} {S : Nat → Bool} {v : Int32} {g : Nat → Int32} (hs : S (16 * y + i) = true) (hi : i < 16) : upd (fun c => if c / 16 = y ∧ c % 16 < i ∧ S c = true then v else g c) (16 * y + i) v = (fun c => if c / 16 = y ∧ c % 16 < i + 1 ∧ S c = true then v else g c) := by
  funext c
  by_cases h : c = 16 * y + i
  · subst h
    have e1 : (16 * y + i) / 16 = y := by omega
    have e2 : (16 * y + i) % 16 = i := by omega
    simp [upd, e1, e2, hs]
  · simp only [upd, if_neg h]
    by_cases q : c / 16 = y ∧ c % 16 < i ∧ S c = true
    · rw [if_pos q, if_pos ⟨q.1, by omega, q.2.2⟩]
    · rw [if_neg q, if_neg (fun w => q ⟨w.1, by omega, w.2.2⟩)]
theorem pr_skip {y i : Nat} {S : Nat → Bool} {v : Int32} {g : Nat → Int32} (hs : S (16 * y + i) = false) (hi : i < 16) : (fun c => if c / 16 = y ∧ c % 16 < i ∧ S c = true then v else g c) = (fun c => if c / 16 = y ∧ c % 16 < i + 1 ∧ S c = true then v else g c) := by
  funext c
  by_cases h : c = 16 * y + i
  · subst h
    rw [if_neg (fun w => by rw [hs] at w; exact absurd w.2.2 (by decide)), if_neg (fun w => by rw [hs] at w; exact absurd w.2.2 (by decide))]
  · by_cases q : c / 16 = y ∧ c % 16 < i ∧ S c = true
    · rw [if_pos q, if_pos ⟨q.1, by omega, q.2.2⟩]
    · rw [if_neg q, if_neg (fun w => q ⟨w.1, by omega, w.2.2⟩)]
theorem pr_0 {y : Nat} {S : Nat → Bool} {v : Int32} (g : Nat → Int32) : g = (fun c => if c / 16 = y ∧ c % 16 < 0 ∧ S c = true then v else g c) := by
  funext c
  rw [if_neg (by omega)]
theorem pr_e {y : Nat} {S : Nat → Bool} {v : Int32} {g : Nat → Int32} : (fun c => if c / 16 = y ∧ c % 16 < 16 ∧ S c = true then v else g c) = (fun c => if c / 16 = y ∧ S c = true then v else g c) := by
  funext c
  by_cases q : c / 16 = y ∧ S c = true
  · rw [if_pos q, if_pos ⟨q.1, by omega, q.2⟩]
  · rw [if_neg q, if_neg (fun w => q ⟨w.1, w.2.2⟩)]
theorem pq_step {i : Nat} {S : Nat → Bool} {v : Int32} {g : Nat → Int32} : (fun c => if c / 16 = i ∧ S c = true then v else (if c / 16 < i ∧ S c = true then v else g c)) = (fun c => if c / 16 < i + 1 ∧ S c = true then v else g c) := by
  funext c
  by_cases q : c / 16 = i ∧ S c = true
  · rw [if_pos q, if_pos ⟨by omega, q.2⟩]
  · rw [if_neg q]
    by_cases w : c / 16 < i ∧ S c = true
    · rw [if_pos w, if_pos ⟨by omega, w.2⟩]
    · rw [if_neg w, if_neg (fun z => by
        rcases Nat.lt_or_ge (c / 16) i with a | a
        · exact w ⟨a, z.2⟩
        · exact q ⟨by omega, z.2⟩)]
theorem pq_skip {i : Nat} {S : Nat → Bool} {v : Int32} {g : Nat → Int32} (h : ∀ x, x < 16 → S (16 * i + x) = false) : (fun c => if c / 16 < i ∧ S c = true then v else g c) = (fun c => if c / 16 < i + 1 ∧ S c = true then v else g c) := by
  rw [← pq_step]
  funext c
  rw [if_neg (c := c / 16 = i ∧ S c = true)]
  rintro ⟨a, b⟩
  have := h (c % 16) (by omega)
  rw [show 16 * i + c % 16 = c by omega, b] at this
  cases this
theorem wA_comm {M : Mm} {j k : Nat} {f g : Nat → Int32} (h : j ≠ k) : wA (wA M j f) k g = wA (wA M k g) j f := by
  refine mm_ext (fun a => ?_) rfl
  by_cases h1 : a = k
  · subst h1
    rw [wA_s, wA_n (Ne.symm h), wA_s]
  · by_cases h2 : a = j
    · subst h2
      rw [wA_n h1, wA_s, wA_s]
    · rw [wA_n h1, wA_n h2, wA_n h2, wA_n h1]
theorem OF_0 (T : Nat → Int32) : (fun _ => nI 0) = OF T 0 := by
  funext k
  unfold OF
  split <;> rfl
theorem OF_put {T : Nat → Int32} {i a : Nat} (ha : a < 60) (hT : T i = nI a) : upd (OF T i) a (OF T i a + nI 1) = OF T (i + 1) := by
  funext k
  by_cases h : k = a
  · subst h
    simp only [upd, if_true, OF, ha, nI_add]
    rw [fb_ct_succ]
    simp [hT]
  · simp only [upd, if_neg h, OF]
    by_cases q : k < 60
    · have : ¬ nI a = nI k := fun e => h ((nI_eq (by omega) (by omega)).mp e).symm
      simp only [q, if_true]
      rw [fb_ct_succ]
      simp [hT, this]
    · simp [q]
theorem OF_skip {T : Nat → Int32} {i : Nat} (h : ∀ k, k < 60 → ¬ T i = nI k) : OF T i = OF T (i + 1) := by
  funext k
  simp only [OF]
  by_cases q : k < 60
  · simp only [q, if_true]
    rw [fb_ct_succ]
    simp [h k q]
  · simp [q]
set_option maxRecDepth 100000 in
set_option maxHeartbeats 4000000 in
theorem c_X7_eraseFrom {l : Launch} {E : Ee} {M : Mm} {b n : Nat} {LS C : Nat → Nat → Bool} (hs : isSc b) {j k : Nat} {ow : Int32} (hj : j < n) (hn : n ≤ 60) (hk : k < 60) (hC : ∀ i, i < 60 → M.1 (7 + 3 * i + 1 + 1) = rowsOf (C i)) : CtV l E yX7_eraseFrom (.code yX7_eraseFrom cX7_eraseFrom 4 none :: gl) ({ frames := 1, cells := 0, slots := 0, locals := 22 } : Room) (famL b n LS M) [.ref (E.2.2 b), .int (nI j), .int ow, .ref (E.2.2 (7 + 3 * k))] 0 0 (fun M2 => M2 = famL b n (fun i => if i = j then erS (M.1 (7 + 3 * k) 3) (decide (ow = M.1 (7 + 3 * k) 1)) (LS j) (C k) else LS i) M) := by
  refine ctV_of (L0 := [some (.ref (E.2.2 b)), some (.int (nI j)), some (.int ow), some (.ref (E.2.2 (7 + 3 * k)))]) (by decide) rfl (Nat.le_of_ble_eq_true rfl) rfl ?_
  intro Z hl hE hnl F ret
  subst hE
  have in_X4 : ∀ w ∈ u_ws RX4 TX4 9, w ∈ (.code yX7_eraseFrom cX7_eraseFrom 4 none :: gl) := fun w h => List.mem_cons_of_mem _ (lay_X4 w h)
  have in_X7 : ∀ w ∈ u_ws RX7 TX7 4, w ∈ (.code yX7_eraseFrom cX7_eraseFrom 4 none :: gl) := fun w h => List.mem_cons_of_mem _ (lay_X7 w h)
  have g11 : FG Z 11 7 0 := fg_mk F (C := RX7) (T := TX7) (N := 4) in_X7 rfl (by decide) rfl (List.mem_cons_of_mem _ fk_X7_11)
  have g61 : FG Z 61 4 3 := fg_mk F (C := RX4) (T := TX4) (N := 9) in_X4 rfl (by decide) rfl (List.mem_cons_of_mem _ fk_X7_61)
  have g73 : FG Z 73 4 8 := fg_mk F (C := RX4) (T := TX4) (N := 9) in_X4 rfl (by decide) rfl (List.mem_cons_of_mem _ fk_X7_73)
  have g81 : FG Z 81 4 1 := fg_mk F (C := RX4) (T := TX4) (N := 9) in_X4 rfl (by decide) rfl (List.mem_cons_of_mem _ fk_X7_81)
  have k0 := kd_sc0 hs
  have k1 := kd_sc1 hs
  have k2 := kd_sc2 hs
  have k3 := kd_sc3 hs
  have k4 := kd_sc4 hs
  have hbb : b = 204 ∨ b = 329 := hs
  have hLj : (famL b n LS M).1 (b + 5 + 2 * j + 1) = rowsOf (LS j) := famL_in hj
  have hCk : (famL b n LS M).1 (7 + 3 * k + 1 + 1) = rowsOf (C k) := by rw [famL_out (by omega)]; exact hC k hk
  have eo : (famL b n LS M).1 (7 + 3 * k) = M.1 (7 + 3 * k) := famL_out (by omega)
  have csj := cs_sc hs j (by omega)
  obtain ⟨j0, j1⟩ := id csj
  have csk := cs_op k hk
  obtain ⟨c0, c1⟩ := id csk
  have ko := kd_op k hk
  refine jj_aload_n F dX7_eraseFrom_0 rfl ?_
  refine jj_geti F g61 (by assumption) (by rfl) dX7_eraseFrom_1 ?_
  rw [eo]
  refine jj_iconst F (v := nI 1) dX7_eraseFrom_4 (by decide) ?_
  refine jj_icmp_ne F (tgt := 36) dX7_eraseFrom_5 (by decide) (fun h5 => ?_) (fun h5 => ?_)
  · refine jj_aload_n F dX7_eraseFrom_36 rfl ?_
    refine jj_geti F g61 (by assumption) (by rfl) dX7_eraseFrom_37 ?_
    rw [eo]
    refine jj_if_eq F (tgt := 51) dX7_eraseFrom_40 (by decide) (fun h40 => ?_) (fun h40 => ?_)
    · refine jj_aload_n F dX7_eraseFrom_51 rfl ?_
      refine jj_getr F g11 (by assumption) (by rfl) dX7_eraseFrom_52 ?_
      refine jj_iload_n F dX7_eraseFrom_55 rfl ?_
      refine jj_aald F (by assumption) rfl (by omega) dX7_eraseFrom_56 ?_
      refine jj_aload_n F dX7_eraseFrom_57 rfl ?_
      refine jj_getr F g73 (by assumption) (by rfl) dX7_eraseFrom_58 ?_
      refine jj_callVv (na := 1) F (c_X0_takeAway csj csk (by omega) hLj hCk) (gl_V mk_X7_92 vw_X0_takeAway) rfl rfl rfl (by decide +kernel) ⟨Nat.le_of_ble_eq_true rfl, Nat.le_of_ble_eq_true rfl⟩ (by assumption) rfl rfl rfl (Nat.le_of_ble_eq_true rfl) ⟨Nat.le_of_ble_eq_true rfl, Nat.le_of_ble_eq_true rfl⟩ dX7_eraseFrom_61 (fun M61 hp61 => ?_)
      obtain rfl := hp61.symm
      refine ret _ _ _ dX7_eraseFrom_64 ?_
      first
      | (rw [famL_set hj]; refine famL_cong (fun i hi => ?_); by_cases q : i = j; (subst q; rw [b2i_n0] at h21; simp [erS, h5, h21]); simp [q]; done)
      | (rw [famL_set hj]; refine famL_cong (fun i hi => ?_); by_cases q : i = j; (subst q; simp [erS, h5, h40]); simp [q]; done)
      | (rw [famL_set hj]; refine famL_cong (fun i hi => ?_); by_cases q : i = j; (subst q; simp [erS, h5, h40, h48]); simp [q]; done)
      | (refine famL_cong (fun i hi => ?_); by_cases q : i = j; (subst q; rw [b2i_0] at h21; simp [erS, h5, h21]); simp [q]; done)
      | (refine famL_cong (fun i hi => ?_); by_cases q : i = j; (subst q; simp [erS, h5, h40, h48]); simp [q]; done)
    · refine jj_iload_n F dX7_eraseFrom_43 rfl ?_
      refine jj_aload_n F dX7_eraseFrom_44 rfl ?_
      refine jj_geti F g81 (by assumption) (by rfl) dX7_eraseFrom_45 ?_
      rw [eo]
      refine jj_icmp_ne F (tgt := 64) dX7_eraseFrom_48 (by decide) (fun h48 => ?_) (fun h48 => ?_)
      · refine ret _ _ _ dX7_eraseFrom_64 ?_
        first
        | (rw [famL_set hj]; refine famL_cong (fun i hi => ?_); by_cases q : i = j; (subst q; rw [b2i_n0] at h21; simp [erS, h5, h21]); simp [q]; done)
        | (rw [famL_set hj]; refine famL_cong (fun i hi => ?_); by_cases q : i = j; (subst q; simp [erS, h5, h40]); simp [q]; done)
        | (rw [famL_set hj]; refine famL_cong (fun i hi => ?_); by_cases q : i = j; (subst q; simp [erS, h5, h40, h48]); simp [q]; done)
        | (refine famL_cong (fun i hi => ?_); by_cases q : i = j; (subst q; rw [b2i_0] at h21; simp [erS, h5, h21]); simp [q]; done)
        | (refine famL_cong (fun i hi => ?_); by_cases q : i = j; (subst q; simp [erS, h5, h40, h48]); simp [q]; done)
      · refine jj_aload_n F dX7_eraseFrom_51 rfl ?_
        refine jj_getr F g11 (by assumption) (by rfl) dX7_eraseFrom_52 ?_
        refine jj_iload_n F dX7_eraseFrom_55 rfl ?_
        refine jj_aald F (by assumption) rfl (by omega) dX7_eraseFrom_56 ?_
        refine jj_aload_n F dX7_eraseFrom_57 rfl ?_
        refine jj_getr F g73 (by assumption) (by rfl) dX7_eraseFrom_58 ?_
        refine jj_callVv (na := 1) F (c_X0_takeAway csj csk (by omega) hLj hCk) (gl_V mk_X7_92 vw_X0_takeAway) rfl rfl rfl (by decide +kernel) ⟨Nat.le_of_ble_eq_true rfl, Nat.le_of_ble_eq_true rfl⟩ (by assumption) rfl rfl rfl (Nat.le_of_ble_eq_true rfl) ⟨Nat.le_of_ble_eq_true rfl, Nat.le_of_ble_eq_true rfl⟩ dX7_eraseFrom_61 (fun M61 hp61 => ?_)
        obtain rfl := hp61.symm
        refine ret _ _ _ dX7_eraseFrom_64 ?_
        first
        | (rw [famL_set hj]; refine famL_cong (fun i hi => ?_); by_cases q : i = j; (subst q; rw [b2i_n0] at h21; simp [erS, h5, h21]); simp [q]; done)
        | (rw [famL_set hj]; refine famL_cong (fun i hi => ?_); by_cases q : i = j; (subst q; simp [erS, h5, h40]); simp [q]; done)
        | (rw [famL_set hj]; refine famL_cong (fun i hi => ?_); by_cases q : i = j; (subst q; simp [erS, h5, h40, h48]); simp [q]; done)
        | (refine famL_cong (fun i hi => ?_); by_cases q : i = j; (subst q; rw [b2i_0] at h21; simp [erS, h5, h21]); simp [q]; done)
        | (refine famL_cong (fun i hi => ?_); by_cases q : i = j; (subst q; simp [erS, h5, h40, h48]); simp [q]; done)
  · refine jj_aload_n F dX7_eraseFrom_8 rfl ?_
    refine jj_getr F g11 (by assumption) (by rfl) dX7_eraseFrom_9 ?_
    refine jj_iload_n F dX7_eraseFrom_12 rfl ?_
    refine jj_aald F (by assumption) rfl (by omega) dX7_eraseFrom_13 ?_
    refine jj_aload_n F dX7_eraseFrom_14 rfl ?_
    refine jj_getr F g73 (by assumption) (by rfl) dX7_eraseFrom_15 ?_
    refine jj_callVi (na := 1) F (c_X0_meets (by assumption) (by assumption) (by assumption) (by assumption)) (gl_V mk_X7_88 vw_X0_meets) rfl rfl rfl (by decide +kernel) ⟨Nat.le_of_ble_eq_true rfl, Nat.le_of_ble_eq_true rfl⟩ (by assumption) rfl rfl rfl (Nat.le_of_ble_eq_true rfl) ⟨Nat.le_of_ble_eq_true rfl, Nat.le_of_ble_eq_true rfl⟩ dX7_eraseFrom_18 (fun r18 M18 hp18 => ?_)
    obtain ⟨rfl, rfl⟩ := symm2 hp18
    refine jj_if_eq F (tgt := 64) dX7_eraseFrom_21 (by decide) (fun h21 => ?_) (fun h21 => ?_)
    · refine ret _ _ _ dX7_eraseFrom_64 ?_
      first
      | (rw [famL_set hj]; refine famL_cong (fun i hi => ?_); by_cases q : i = j; (subst q; rw [b2i_n0] at h21; simp [erS, h5, h21]); simp [q]; done)
      | (rw [famL_set hj]; refine famL_cong (fun i hi => ?_); by_cases q : i = j; (subst q; simp [erS, h5, h40]); simp [q]; done)
      | (rw [famL_set hj]; refine famL_cong (fun i hi => ?_); by_cases q : i = j; (subst q; simp [erS, h5, h40, h48]); simp [q]; done)
      | (refine famL_cong (fun i hi => ?_); by_cases q : i = j; (subst q; rw [b2i_0] at h21; simp [erS, h5, h21]); simp [q]; done)
      | (refine famL_cong (fun i hi => ?_); by_cases q : i = j; (subst q; simp [erS, h5, h40, h48]); simp [q]; done)
    · refine jj_aload_n F dX7_eraseFrom_24 rfl ?_
      refine jj_getr F g11 (by assumption) (by rfl) dX7_eraseFrom_25 ?_
      refine jj_iload_n F dX7_eraseFrom_28 rfl ?_
      refine jj_aald F (by assumption) rfl (by omega) dX7_eraseFrom_29 ?_
      refine jj_callVv (na := 0) F (c_X0_becomeEmpty (by assumption)) (gl_V mk_X7_34 vw_X0_becomeEmpty) rfl rfl rfl (by decide +kernel) ⟨Nat.le_of_ble_eq_true rfl, Nat.le_of_ble_eq_true rfl⟩ (by assumption) rfl rfl rfl (Nat.le_of_ble_eq_true rfl) ⟨Nat.le_of_ble_eq_true rfl, Nat.le_of_ble_eq_true rfl⟩ dX7_eraseFrom_30 (fun M30 hp30 => ?_)
      obtain rfl := hp30.symm
      refine jj_goto F (tgt := 64) dX7_eraseFrom_33 (by decide) ?_
      refine ret _ _ _ dX7_eraseFrom_64 ?_
      first
      | (rw [famL_set hj]; refine famL_cong (fun i hi => ?_); by_cases q : i = j; (subst q; rw [b2i_n0] at h21; simp [erS, h5, h21]); simp [q]; done)
      | (rw [famL_set hj]; refine famL_cong (fun i hi => ?_); by_cases q : i = j; (subst q; simp [erS, h5, h40]); simp [q]; done)
      | (rw [famL_set hj]; refine famL_cong (fun i hi => ?_); by_cases q : i = j; (subst q; simp [erS, h5, h40, h48]); simp [q]; done)
      | (refine famL_cong (fun i hi => ?_); by_cases q : i = j; (subst q; rw [b2i_0] at h21; simp [erS, h5, h21]); simp [q]; done)
      | (refine famL_cong (fun i hi => ?_); by_cases q : i = j; (subst q; simp [erS, h5, h40, h48]); simp [q]; done)
set_option maxRecDepth 100000 in
set_option maxHeartbeats 4000000 in
theorem c_X7_takeEffect {l : Launch} {E : Ee} {M : Mm} {b k : Nat} {LS C : Nat → Nat → Bool} (hs : isSc b) (hk : k < 60) (hC : ∀ i, i < 60 → M.1 (7 + 3 * i + 1 + 1) = rowsOf (C i)) : CtV l E yX7_takeEffect (.code yX7_takeEffect cX7_takeEffect 5 none :: gl) ({ frames := 2, cells := 0, slots := 0, locals := 45 } : Room) (famL b (k + 1) LS M) [.ref (E.2.2 b), .ref (E.2.2 5), .int (nI k)] 0 0 (fun M2 => M2 = famL b (k + 1) (teF M C k LS) M) := by
  refine ctV_of (L0 := [some (.ref (E.2.2 b)), some (.ref (E.2.2 5)), some (.int (nI k)), none, none]) (by decide) rfl (Nat.le_of_ble_eq_true rfl) rfl ?_
  intro Z hl hE hnl F ret
  subst hE
  have in_X2 : ∀ w ∈ u_ws RX2 TX2 3, w ∈ (.code yX7_takeEffect cX7_takeEffect 5 none :: gl) := fun w h => List.mem_cons_of_mem _ (lay_X2 w h)
  have in_X4 : ∀ w ∈ u_ws RX4 TX4 9, w ∈ (.code yX7_takeEffect cX7_takeEffect 5 none :: gl) := fun w h => List.mem_cons_of_mem _ (lay_X4 w h)
  have in_X7 : ∀ w ∈ u_ws RX7 TX7 4, w ∈ (.code yX7_takeEffect cX7_takeEffect 5 none :: gl) := fun w h => List.mem_cons_of_mem _ (lay_X7 w h)
  have g11 : FG Z 11 7 0 := fg_mk F (C := RX7) (T := TX7) (N := 4) in_X7 rfl (by decide) rfl (List.mem_cons_of_mem _ fk_X7_11)
  have g37 : FG Z 37 2 0 := fg_mk F (C := RX2) (T := TX2) (N := 3) in_X2 rfl (by decide) rfl (List.mem_cons_of_mem _ fk_X7_37)
  have g54 : FG Z 54 4 2 := fg_mk F (C := RX4) (T := TX4) (N := 9) in_X4 rfl (by decide) rfl (List.mem_cons_of_mem _ fk_X7_54)
  have g70 : FG Z 70 4 0 := fg_mk F (C := RX4) (T := TX4) (N := 9) in_X4 rfl (by decide) rfl (List.mem_cons_of_mem _ fk_X7_70)
  have g73 : FG Z 73 4 8 := fg_mk F (C := RX4) (T := TX4) (N := 9) in_X4 rfl (by decide) rfl (List.mem_cons_of_mem _ fk_X7_73)
  have g81 : FG Z 81 4 1 := fg_mk F (C := RX4) (T := TX4) (N := 9) in_X4 rfl (by decide) rfl (List.mem_cons_of_mem _ fk_X7_81)
  have k0 := kd_sc0 hs
  have k1 := kd_sc1 hs
  have k2 := kd_sc2 hs
  have k3 := kd_sc3 hs
  have k4 := kd_sc4 hs
  have hbb : b = 204 ∨ b = 329 := hs
  have kl := kd_Log
  have ke := kd_ents
  have eo : ∀ (LT : Nat → Nat → Bool) (i : Nat), i < 60 → (famL b (k + 1) LT M).1 (7 + 3 * i) = M.1 (7 + 3 * i) := fun LT i hi => famL_out (by omega)
  have ko := kd_op k hk
  refine jj_aload_n F dX7_takeEffect_0 rfl ?_
  refine jj_getr F g37 (by assumption) (by rfl) dX7_takeEffect_1 ?_
  refine jj_iload_n F dX7_takeEffect_4 rfl ?_
  refine jj_aald F (by assumption) rfl (by omega) dX7_takeEffect_5 ?_
  refine jj_astore_n F dX7_takeEffect_6 (by rw [hnl]; decide) ?_
  dsimp only [lq_st, lq_clr, lq_no]
  refine jj_aload_n F dX7_takeEffect_7 rfl ?_
  refine jj_geti F g70 (by assumption) (by rfl) dX7_takeEffect_8 ?_
  rw [eo _ k hk]
  refine jj_iconst F (v := nI 2) dX7_takeEffect_11 (by decide) ?_
  refine jj_icmp_eq F (tgt := 29) dX7_takeEffect_12 (by decide) (fun h12 => ?_) (fun h12 => ?_)
  · have lo : ∀ i, i ≤ k → JJ Z (0, 0) (famL b (k + 1) (fun j => if j < i ∧ M.1 (7 + 3 * j) 2 ≤ M.1 (7 + 3 * k) 2 then erS (M.1 (7 + 3 * k) 3) (decide (M.1 (7 + 3 * j) 1 = M.1 (7 + 3 * k) 1)) (LS j) (C k) else LS j) M) 32 [some (.ref ((zE Z).2.2 b)), some (.ref ((zE Z).2.2 5)), some (.int (nI k)), some (.ref ((zE Z).2.2 (7 + 3 * k))), some (.int (nI i))] [] := by
      refine jj_loop (k) ?_ ?_
      · refine jj_iload F dX7_takeEffect_32 rfl ?_
        refine jj_iload_n F dX7_takeEffect_34 rfl ?_
        refine jj_icmp_ge F (tgt := 78) dX7_takeEffect_35 (by decide) (fun _ => ?_) (fun h9 => absurd (nI_le (by omega) (by omega)) h9)
        refine ret _ _ _ dX7_takeEffect_78 ?_
        unfold teF
        rw [if_pos h12]
      · intro i hi ih
        have ki := kd_op i (by omega)
        refine jj_iload F dX7_takeEffect_32 rfl ?_
        refine jj_iload_n F dX7_takeEffect_34 rfl ?_
        refine jj_icmp_ge F (tgt := 78) dX7_takeEffect_35 (by decide) (fun h9 => absurd h9 (nI_ge (by omega) (by omega))) (fun _ => ?_)
        refine jj_aload_n F dX7_takeEffect_38 rfl ?_
        refine jj_getr F g37 (by assumption) (by rfl) dX7_takeEffect_39 ?_
        refine jj_iload F dX7_takeEffect_42 rfl ?_
        refine jj_aald F (by assumption) rfl (by omega) dX7_takeEffect_44 ?_
        refine jj_geti F g54 (by assumption) (by rfl) dX7_takeEffect_45 ?_
        rw [eo _ i (by omega)]
        refine jj_aload_n F dX7_takeEffect_48 rfl ?_
        refine jj_geti F g54 (by assumption) (by rfl) dX7_takeEffect_49 ?_
        rw [eo _ k (by omega)]
        refine jj_icmp_gt F (tgt := 72) dX7_takeEffect_52 (by decide) (fun h52 => ?_) (fun h52 => ?_)
        · refine jj_iinc F dX7_takeEffect_72 rfl (by first | exact iinc1 _ | rfl) (by rw [hnl]; decide) ?_
          dsimp only [lq_st, lq_clr, lq_no]
          refine jj_goto F (tgt := 32) dX7_takeEffect_75 (by decide) ?_
          refine jj_eqM (famL_cong (fun j hj => ?_)) ih
          first
          | (by_cases q : j = i; (subst q; simp [i32_lt_nle h52]); simp [q, show (j < i + 1) = (j < i) by simp; omega]; done)
          | (by_cases q : j = i; (subst q; simp [i32_nlt h52]); simp [q, show (j < i + 1) = (j < i) by simp; omega]; done)
        · refine jj_aload_n F dX7_takeEffect_55 rfl ?_
          refine jj_iload F dX7_takeEffect_56 rfl ?_
          refine jj_aload_n F dX7_takeEffect_58 rfl ?_
          refine jj_getr F g37 (by assumption) (by rfl) dX7_takeEffect_59 ?_
          refine jj_iload F dX7_takeEffect_62 rfl ?_
          refine jj_aald F (by assumption) rfl (by omega) dX7_takeEffect_64 ?_
          refine jj_geti F g81 (by assumption) (by rfl) dX7_takeEffect_65 ?_
          rw [eo _ i (by omega)]
          refine jj_aload_n F dX7_takeEffect_68 rfl ?_
          refine jj_callVv (na := 3) F (c_X7_eraseFrom hs (by omega) (by omega) hk hC) (gl_V mk_X7_84 vw_X7_eraseFrom) rfl rfl rfl (by decide +kernel) ⟨Nat.le_of_ble_eq_true rfl, Nat.le_of_ble_eq_true rfl⟩ (by assumption) rfl rfl rfl (Nat.le_of_ble_eq_true rfl) ⟨Nat.le_of_ble_eq_true rfl, Nat.le_of_ble_eq_true rfl⟩ dX7_takeEffect_69 (fun M69 hp69 => ?_)
          obtain rfl := hp69.symm
          refine jj_iinc F dX7_takeEffect_72 rfl (by first | exact iinc1 _ | rfl) (by rw [hnl]; decide) ?_
          dsimp only [lq_st, lq_clr, lq_no]
          refine jj_goto F (tgt := 32) dX7_takeEffect_75 (by decide) ?_
          refine jj_eqM (famL_cong (fun j hj => ?_)) ih
          first
          | (by_cases q : j = i; (subst q; simp [i32_lt_nle h52]); simp [q, show (j < i + 1) = (j < i) by simp; omega]; done)
          | (by_cases q : j = i; (subst q; simp [i32_nlt h52]); simp [q, show (j < i + 1) = (j < i) by simp; omega]; done)
    refine jj_iconst F (v := nI 0) dX7_takeEffect_29 (by decide) ?_
    refine jj_istore F dX7_takeEffect_30 (by rw [hnl]; decide) ?_
    dsimp only [lq_st, lq_clr, lq_no]
    refine jj_eqM (famL_cong (fun j hj => ?_)) (lo 0 (by omega))
    simp
  · refine jj_aload_n F dX7_takeEffect_15 rfl ?_
    refine jj_getr F g11 (by assumption) (by rfl) dX7_takeEffect_16 ?_
    refine jj_iload_n F dX7_takeEffect_19 rfl ?_
    refine jj_aald F (by assumption) rfl (by omega) dX7_takeEffect_20 ?_
    refine jj_aload_n F dX7_takeEffect_21 rfl ?_
    refine jj_getr F g73 (by assumption) (by rfl) dX7_takeEffect_22 ?_
    have csk := cs_op k hk
    obtain ⟨c0, c1⟩ := id csk
    have csl := cs_sc hs k hk
    obtain ⟨l0, l1⟩ := id csl
    refine jj_callVv (na := 1) F (c_X0_becomeCopy csl csk (by omega)) (gl_V mk_X7_77 vw_X0_becomeCopy) rfl rfl rfl (by decide +kernel) ⟨Nat.le_of_ble_eq_true rfl, Nat.le_of_ble_eq_true rfl⟩ (by assumption) rfl rfl rfl (Nat.le_of_ble_eq_true rfl) ⟨Nat.le_of_ble_eq_true rfl, Nat.le_of_ble_eq_true rfl⟩ dX7_takeEffect_25 (fun M25 hp25 => ?_)
    obtain rfl := hp25.symm
    rw [show (famL b (k + 1) LS M).1 (7 + 3 * k + 1 + 1) = rowsOf (C k) by rw [famL_out (by omega)]; exact hC k hk, famL_set (by omega)]
    refine ret _ _ _ dX7_takeEffect_28 ?_
    unfold teF
    rw [if_neg h12]
set_option maxRecDepth 100000 in
set_option maxHeartbeats 4000000 in
theorem c_X7_becomeBlank {l : Launch} {E : Ee} {M : Mm} {b : Nat} (hs : isSc b) : CtV l E yX7_becomeBlank (.code yX7_becomeBlank cX7_becomeBlank 2 none :: gl) ({ frames := 0, cells := 0, slots := 0, locals := 0 } : Room) M [.ref (E.2.2 b)] 0 0 (fun M2 => M2 = wA (wA M (b + 2) (fun _ => -1)) (b + 3) (fun _ => nI 0)) := by
  refine ctV_of (L0 := [some (.ref (E.2.2 b)), none]) (by decide) rfl (Nat.le_of_ble_eq_true rfl) rfl ?_
  intro Z hl hE hnl F ret
  subst hE
  have in_X7 : ∀ w ∈ u_ws RX7 TX7 4, w ∈ (.code yX7_becomeBlank cX7_becomeBlank 2 none :: gl) := fun w h => List.mem_cons_of_mem _ (lay_X7 w h)
  have g17 : FG Z 17 7 1 := fg_mk F (C := RX7) (T := TX7) (N := 4) in_X7 rfl (by decide) rfl (List.mem_cons_of_mem _ fk_X7_17)
  have g21 : FG Z 21 7 2 := fg_mk F (C := RX7) (T := TX7) (N := 4) in_X7 rfl (by decide) rfl (List.mem_cons_of_mem _ fk_X7_21)
  have k0 := kd_sc0 hs
  have k1 := kd_sc1 hs
  have k2 := kd_sc2 hs
  have k3 := kd_sc3 hs
  have k4 := kd_sc4 hs
  have hbb : b = 204 ∨ b = 329 := hs
  have lo : ∀ i, i ≤ 256 → JJ Z (0, 0) (wA (wA M (b + 2) (fl i (fun _ => -1) (M.1 (b + 2)))) (b + 3) (fl i (fun _ => nI 0) (M.1 (b + 3)))) 2 [some (.ref ((zE Z).2.2 b)), some (.int (nI i))] [] := by
    refine jj_loop (256) ?_ ?_
    · refine jj_iload_n F dX7_becomeBlank_2 rfl ?_
      refine jj_sipush F (v := nI 256) dX7_becomeBlank_3 (by decide) ?_
      refine jj_icmp_ge F (tgt := 29) dX7_becomeBlank_6 (by decide) (fun _ => ?_) (fun h9 => absurd (nI_le (by omega) (by omega)) h9)
      refine jj_eqv (meq_fl k3) ?_
      rw [wA_comm (by omega)]
      refine jj_eqv (meq_fl k2) ?_
      rw [wA_comm (by omega)]
      exact ret _ _ _ dX7_becomeBlank_29 rfl
    · intro i hi ih
      refine jj_iload_n F dX7_becomeBlank_2 rfl ?_
      refine jj_sipush F (v := nI 256) dX7_becomeBlank_3 (by decide) ?_
      refine jj_icmp_ge F (tgt := 29) dX7_becomeBlank_6 (by decide) (fun h9 => absurd h9 (nI_ge (by omega) (by omega))) (fun _ => ?_)
      refine jj_aload_n F dX7_becomeBlank_9 rfl ?_
      refine jj_getr F g17 (by assumption) (by rfl) dX7_becomeBlank_10 ?_
      refine jj_iload_n F dX7_becomeBlank_13 rfl ?_
      refine jj_iconst F (v := -1) dX7_becomeBlank_14 (by decide) ?_
      refine jj_iast F (by assumption) rfl (by omega) dX7_becomeBlank_15 ?_
      refine jj_aload_n F dX7_becomeBlank_16 rfl ?_
      refine jj_getr F g21 (by assumption) (by rfl) dX7_becomeBlank_17 ?_
      refine jj_iload_n F dX7_becomeBlank_20 rfl ?_
      refine jj_iconst F (v := nI 0) dX7_becomeBlank_21 (by decide) ?_
      refine jj_iast F (by assumption) rfl (by omega) dX7_becomeBlank_22 ?_
      refine jj_iinc F dX7_becomeBlank_23 rfl (by first | exact iinc1 _ | rfl) (by rw [hnl]; decide) ?_
      dsimp only [lq_st, lq_clr, lq_no]
      refine jj_goto F (tgt := 2) dX7_becomeBlank_26 (by decide) ?_
      refine jj_eqM ?_ ih
      rw [wA_n (by omega), wA_s, wA_comm (by omega), wA_wA, fl_s rfl, wA_s, wA_wA, fl_s rfl]
  refine jj_iconst F (v := nI 0) dX7_becomeBlank_0 (by decide) ?_
  refine jj_istore_n F dX7_becomeBlank_1 (by rw [hnl]; decide) ?_
  dsimp only [lq_st, lq_clr, lq_no]
  refine jj_eqM ?_ (lo 0 (by omega))
  rw [fl_z, fl_z, wA_same, wA_same]
set_option maxRecDepth 100000 in
set_option maxHeartbeats 4000000 in
theorem c_X7_paintRow {l : Launch} {E : Ee} {M : Mm} {b k : Nat} {S : Nat → Bool} {col : Int32} (hs : isSc b) (hk : k < 60) (hS : M.1 (b + 5 + 2 * k + 1) = rowsOf S) {y : Nat} (hy : y < 16) : CtV l E yX7_paintRow (.code yX7_paintRow cX7_paintRow 6 none :: gl) ({ frames := 1, cells := 0, slots := 0, locals := 21 } : Room) M [.ref (E.2.2 b), .int (nI k), .int col, .int (nI y)] 0 0 (fun M2 => M2 = wA (wA M (b + 2) (fun c => if c / 16 = y ∧ S c = true then nI k else M.1 (b + 2) c)) (b + 3) (fun c => if c / 16 = y ∧ S c = true then col else M.1 (b + 3) c)) := by
  refine ctV_of (L0 := [some (.ref (E.2.2 b)), some (.int (nI k)), some (.int col), some (.int (nI y)), none, none]) (by decide) rfl (Nat.le_of_ble_eq_true rfl) rfl ?_
  intro Z hl hE hnl F ret
  subst hE
  have in_X7 : ∀ w ∈ u_ws RX7 TX7 4, w ∈ (.code yX7_paintRow cX7_paintRow 6 none :: gl) := fun w h => List.mem_cons_of_mem _ (lay_X7 w h)
  have g11 : FG Z 11 7 0 := fg_mk F (C := RX7) (T := TX7) (N := 4) in_X7 rfl (by decide) rfl (List.mem_cons_of_mem _ fk_X7_11)
  have g17 : FG Z 17 7 1 := fg_mk F (C := RX7) (T := TX7) (N := 4) in_X7 rfl (by decide) rfl (List.mem_cons_of_mem _ fk_X7_17)
  have g21 : FG Z 21 7 2 := fg_mk F (C := RX7) (T := TX7) (N := 4) in_X7 rfl (by decide) rfl (List.mem_cons_of_mem _ fk_X7_21)
  have k0 := kd_sc0 hs
  have k1 := kd_sc1 hs
  have k2 := kd_sc2 hs
  have k3 := kd_sc3 hs
  have k4 := kd_sc4 hs
  have hbb : b = 204 ∨ b = 329 := hs
  have lo : ∀ i, i ≤ 16 → JJ Z (0, 0) (wA (wA M (b + 2) (fun c => if c / 16 = y ∧ c % 16 < i ∧ S c = true then nI k else M.1 (b + 2) c)) (b + 3) (fun c => if c / 16 = y ∧ c % 16 < i ∧ S c = true then col else M.1 (b + 3) c)) 3 [some (.ref ((zE Z).2.2 b)), some (.int (nI k)), some (.int col), some (.int (nI y)), some (.int (nI i)), none] [] := by
    refine jj_loop (16) ?_ ?_
    · refine jj_iload F dX7_paintRow_3 rfl ?_
      refine jj_bipush F (v := nI 16) dX7_paintRow_5 (by decide) ?_
      refine jj_icmp_ge F (tgt := 55) dX7_paintRow_7 (by decide) (fun _ => ?_) (fun h9 => absurd (nI_le (by omega) (by omega)) h9)
      refine ret _ _ _ dX7_paintRow_55 ?_
      rw [pr_e, pr_e]
    · intro i hi ih
      have csl := cs_sc hs k hk
      obtain ⟨l0, l1⟩ := id csl
      have hSi : (wA (wA M (b + 2) (fun c => if c / 16 = y ∧ c % 16 < i ∧ S c = true then nI k else M.1 (b + 2) c)) (b + 3) (fun c => if c / 16 = y ∧ c % 16 < i ∧ S c = true then col else M.1 (b + 3) c)).1 (b + 5 + 2 * k + 1) = rowsOf S := by rw [wA_n (by omega), wA_n (by omega)]; exact hS
      refine jj_iload F dX7_paintRow_3 rfl ?_
      refine jj_bipush F (v := nI 16) dX7_paintRow_5 (by decide) ?_
      refine jj_icmp_ge F (tgt := 55) dX7_paintRow_7 (by decide) (fun h9 => absurd h9 (nI_ge (by omega) (by omega))) (fun _ => ?_)
      refine jj_bipush F (v := nI 16) dX7_paintRow_10 (by decide) ?_
      refine jj_iload_n F dX7_paintRow_12 rfl ?_
      refine jj_imul F dX7_paintRow_13 ?_
      refine jj_iload F dX7_paintRow_14 rfl ?_
      refine jj_iadd F dX7_paintRow_16 ?_
      rw [pk_mul, nI_add]
      refine jj_istore F dX7_paintRow_17 (by rw [hnl]; decide) ?_
      dsimp only [lq_st, lq_clr, lq_no]
      refine jj_aload_n F dX7_paintRow_19 rfl ?_
      refine jj_getr F g11 (by assumption) (by rfl) dX7_paintRow_20 ?_
      refine jj_iload_n F dX7_paintRow_23 rfl ?_
      refine jj_aald F (by assumption) rfl (by omega) dX7_paintRow_24 ?_
      refine jj_iload F dX7_paintRow_25 rfl ?_
      refine jj_callVi (na := 1) F (c_X0_contains (by assumption) (by assumption) (by omega)) (gl_V mk_X7_102 vw_X0_contains) rfl rfl rfl (by decide +kernel) ⟨Nat.le_of_ble_eq_true rfl, Nat.le_of_ble_eq_true rfl⟩ (by assumption) rfl rfl rfl (Nat.le_of_ble_eq_true rfl) ⟨Nat.le_of_ble_eq_true rfl, Nat.le_of_ble_eq_true rfl⟩ dX7_paintRow_27 (fun r27 M27 hp27 => ?_)
      obtain ⟨rfl, rfl⟩ := symm2 hp27
      refine jj_if_eq F (tgt := 49) dX7_paintRow_30 (by decide) (fun h30 => ?_) (fun h30 => ?_)
      · refine jj_iinc F dX7_paintRow_49 rfl (by first | exact iinc1 _ | rfl) (by rw [hnl]; decide) ?_
        dsimp only [lq_st, lq_clr, lq_no]
        refine jj_goto F (tgt := 3) dX7_paintRow_52 (by decide) ?_
        refine jj_less (L2 := [some (.ref ((zE Z).2.2 b)), some (.int (nI k)), some (.int col), some (.int (nI y)), some (.int (nI (i + 1))), none]) (less5 _ _ _ _ _ _) ?_
        refine jj_eqM ?_ ih
        first
        | (rw [b2i_n0] at h30; rw [wA_n (by omega), wA_s, wA_comm (by omega), wA_wA, pr_step h30 hi, wA_s, wA_wA, pr_step h30 hi]; done)
        | (rw [b2i_0] at h30; rw [pr_skip (v := nI k) h30 hi, pr_skip (v := col) h30 hi]; done)
      · refine jj_aload_n F dX7_paintRow_33 rfl ?_
        refine jj_getr F g17 (by assumption) (by rfl) dX7_paintRow_34 ?_
        refine jj_iload F dX7_paintRow_37 rfl ?_
        refine jj_iload_n F dX7_paintRow_39 rfl ?_
        refine jj_iast F (by assumption) rfl (by omega) dX7_paintRow_40 ?_
        refine jj_aload_n F dX7_paintRow_41 rfl ?_
        refine jj_getr F g21 (by assumption) (by rfl) dX7_paintRow_42 ?_
        refine jj_iload F dX7_paintRow_45 rfl ?_
        refine jj_iload_n F dX7_paintRow_47 rfl ?_
        refine jj_iast F (by assumption) rfl (by omega) dX7_paintRow_48 ?_
        refine jj_iinc F dX7_paintRow_49 rfl (by first | exact iinc1 _ | rfl) (by rw [hnl]; decide) ?_
        dsimp only [lq_st, lq_clr, lq_no]
        refine jj_goto F (tgt := 3) dX7_paintRow_52 (by decide) ?_
        refine jj_less (L2 := [some (.ref ((zE Z).2.2 b)), some (.int (nI k)), some (.int col), some (.int (nI y)), some (.int (nI (i + 1))), none]) (less5 _ _ _ _ _ _) ?_
        refine jj_eqM ?_ ih
        first
        | (rw [b2i_n0] at h30; rw [wA_n (by omega), wA_s, wA_comm (by omega), wA_wA, pr_step h30 hi, wA_s, wA_wA, pr_step h30 hi]; done)
        | (rw [b2i_0] at h30; rw [pr_skip (v := nI k) h30 hi, pr_skip (v := col) h30 hi]; done)
  refine jj_iconst F (v := nI 0) dX7_paintRow_0 (by decide) ?_
  refine jj_istore F dX7_paintRow_1 (by rw [hnl]; decide) ?_
  dsimp only [lq_st, lq_clr, lq_no]
  refine jj_eqM ?_ (lo 0 (by omega))
  rw [← pr_0, ← pr_0, wA_same, wA_same]
set_option maxRecDepth 100000 in
set_option maxHeartbeats 4000000 in
theorem c_X7_paint {l : Launch} {E : Ee} {M : Mm} {b k : Nat} {S : Nat → Bool} {col : Int32} (hs : isSc b) (hk : k < 60) (hS : M.1 (b + 5 + 2 * k + 1) = rowsOf S) : CtV l E yX7_paint (.code yX7_paint cX7_paint 4 none :: gl) ({ frames := 2, cells := 0, slots := 0, locals := 46 } : Room) M [.ref (E.2.2 b), .int (nI k), .int col] 0 0 (fun M2 => M2 = wA (wA M (b + 2) (fun c => if S c = true then nI k else M.1 (b + 2) c)) (b + 3) (fun c => if S c = true then col else M.1 (b + 3) c)) := by
  refine ctV_of (L0 := [some (.ref (E.2.2 b)), some (.int (nI k)), some (.int col), none]) (by decide) rfl (Nat.le_of_ble_eq_true rfl) rfl ?_
  intro Z hl hE hnl F ret
  subst hE
  have in_X0 : ∀ w ∈ u_ws RX0 TX0 1, w ∈ (.code yX7_paint cX7_paint 4 none :: gl) := fun w h => List.mem_cons_of_mem _ (lay_X0 w h)
  have in_X7 : ∀ w ∈ u_ws RX7 TX7 4, w ∈ (.code yX7_paint cX7_paint 4 none :: gl) := fun w h => List.mem_cons_of_mem _ (lay_X7 w h)
  have g11 : FG Z 11 7 0 := fg_mk F (C := RX7) (T := TX7) (N := 4) in_X7 rfl (by decide) rfl (List.mem_cons_of_mem _ fk_X7_11)
  have g95 : FG Z 95 0 0 := fg_mk F (C := RX0) (T := TX0) (N := 1) in_X0 rfl (by decide) rfl (List.mem_cons_of_mem _ fk_X7_95)
  have k0 := kd_sc0 hs
  have k1 := kd_sc1 hs
  have k2 := kd_sc2 hs
  have k3 := kd_sc3 hs
  have k4 := kd_sc4 hs
  have hbb : b = 204 ∨ b = 329 := hs
  have lo : ∀ i, i ≤ 16 → JJ Z (0, 0) (wA (wA M (b + 2) (fun c => if c / 16 < i ∧ S c = true then nI k else M.1 (b + 2) c)) (b + 3) (fun c => if c / 16 < i ∧ S c = true then col else M.1 (b + 3) c)) 2 [some (.ref ((zE Z).2.2 b)), some (.int (nI k)), some (.int col), some (.int (nI i))] [] := by
    refine jj_loop (16) ?_ ?_
    · refine jj_iload_n F dX7_paint_2 rfl ?_
      refine jj_bipush F (v := nI 16) dX7_paint_3 (by decide) ?_
      refine jj_icmp_ge F (tgt := 35) dX7_paint_5 (by decide) (fun _ => ?_) (fun h9 => absurd (nI_le (by omega) (by omega)) h9)
      refine jj_eqv (meq_wA (g := fun c => if S c = true then col else M.1 (b + 3) c) k3 (fun c hc => by have e : c / 16 < 16 := by omega
                                                                                                simp [e])) ?_
      rw [wA_comm (by omega)]
      refine jj_eqv (meq_wA (g := fun c => if S c = true then nI k else M.1 (b + 2) c) k2 (fun c hc => by have e : c / 16 < 16 := by omega
                                                                                                simp [e])) ?_
      rw [wA_comm (by omega)]
      exact ret _ _ _ dX7_paint_35 rfl
    · intro i hi ih
      have csl := cs_sc hs k hk
      obtain ⟨l0, l1⟩ := id csl
      have hSi : (wA (wA M (b + 2) (fun c => if c / 16 < i ∧ S c = true then nI k else M.1 (b + 2) c)) (b + 3) (fun c => if c / 16 < i ∧ S c = true then col else M.1 (b + 3) c)).1 (b + 5 + 2 * k + 1) = rowsOf S := by rw [wA_n (by omega), wA_n (by omega)]; exact hS
      refine jj_iload_n F dX7_paint_2 rfl ?_
      refine jj_bipush F (v := nI 16) dX7_paint_3 (by decide) ?_
      refine jj_icmp_ge F (tgt := 35) dX7_paint_5 (by decide) (fun h9 => absurd h9 (nI_ge (by omega) (by omega))) (fun _ => ?_)
      refine jj_aload_n F dX7_paint_8 rfl ?_
      refine jj_getr F g11 (by assumption) (by rfl) dX7_paint_9 ?_
      refine jj_iload_n F dX7_paint_12 rfl ?_
      refine jj_aald F (by assumption) rfl (by omega) dX7_paint_13 ?_
      refine jj_getr F g95 (by assumption) (by rfl) dX7_paint_14 ?_
      refine jj_iload_n F dX7_paint_17 rfl ?_
      refine jj_iald F (by assumption) rfl (by omega) dX7_paint_18 ?_
      rw [hSi]
      refine jj_if_eq F (tgt := 29) dX7_paint_19 (by decide) (fun h19 => ?_) (fun h19 => ?_)
      · refine jj_iinc F dX7_paint_29 rfl (by first | exact iinc1 _ | rfl) (by rw [hnl]; decide) ?_
        dsimp only [lq_st, lq_clr, lq_no]
        refine jj_goto F (tgt := 2) dX7_paint_32 (by decide) ?_
        refine jj_eqM ?_ ih
        first
        | (rw [rows_is0] at h19; rw [pq_skip (v := nI k) h19, pq_skip (v := col) h19]; done)
        | (rw [wA_s, wA_n (show b + 2 ≠ b + 3 by omega), wA_s, wA_comm (show b + 3 ≠ b + 2 by omega), wA_wA, wA_wA, pq_step, pq_step]; done)
      · refine jj_aload_n F dX7_paint_22 rfl ?_
        refine jj_iload_n F dX7_paint_23 rfl ?_
        refine jj_iload_n F dX7_paint_24 rfl ?_
        refine jj_iload_n F dX7_paint_25 rfl ?_
        refine jj_callVv (na := 3) F (c_X7_paintRow hs hk hSi hi) (gl_V mk_X7_98 vw_X7_paintRow) rfl rfl rfl (by decide +kernel) ⟨Nat.le_of_ble_eq_true rfl, Nat.le_of_ble_eq_true rfl⟩ (by assumption) rfl rfl rfl (Nat.le_of_ble_eq_true rfl) ⟨Nat.le_of_ble_eq_true rfl, Nat.le_of_ble_eq_true rfl⟩ dX7_paint_26 (fun M26 hp26 => ?_)
        obtain rfl := hp26.symm
        refine jj_iinc F dX7_paint_29 rfl (by first | exact iinc1 _ | rfl) (by rw [hnl]; decide) ?_
        dsimp only [lq_st, lq_clr, lq_no]
        refine jj_goto F (tgt := 2) dX7_paint_32 (by decide) ?_
        refine jj_eqM ?_ ih
        first
        | (rw [rows_is0] at h19; rw [pq_skip (v := nI k) h19, pq_skip (v := col) h19]; done)
        | (rw [wA_s, wA_n (show b + 2 ≠ b + 3 by omega), wA_s, wA_comm (show b + 3 ≠ b + 2 by omega), wA_wA, wA_wA, pq_step, pq_step]; done)
  refine jj_iconst F (v := nI 0) dX7_paint_0 (by decide) ?_
  refine jj_istore_n F dX7_paint_1 (by rw [hnl]; decide) ?_
  dsimp only [lq_st, lq_clr, lq_no]
  refine jj_eqM ?_ (lo 0 (by omega))
  have e0 : ∀ (g : Nat → Int32) (v : Int32), (fun c => if c / 16 < 0 ∧ S c = true then v else g c) = g := fun g v => by funext c; rw [if_neg (by omega)]
  rw [e0, e0, wA_same, wA_same]
theorem less2 (a b c : Option Value) : ∀ (i : Nat) (v : Value), ([a, b, none] : List (Option Value))[i]? = some (some v) → ([a, b, c] : List (Option Value))[i]? = some (some v)
  | 0, _, h => h
  | 1, _, h => h
  | 2, _, h => by simp at h
  | n + 3, _, h => by simp at h
set_option maxRecDepth 100000 in
set_option maxHeartbeats 4000000 in
theorem c_X7_countTops {l : Launch} {E : Ee} {M : Mm} {b : Nat} (hs : isSc b) : CtV l E yX7_countTops (.code yX7_countTops cX7_countTops 3 none :: gl) ({ frames := 0, cells := 0, slots := 0, locals := 0 } : Room) M [.ref (E.2.2 b)] 0 0 (fun M2 => M2 = wA M (b + 4) (OF (M.1 (b + 2)) 256)) := by
  refine ctV_of (L0 := [some (.ref (E.2.2 b)), none, none]) (by decide) rfl (Nat.le_of_ble_eq_true rfl) rfl ?_
  intro Z hl hE hnl F ret
  subst hE
  have in_X7 : ∀ w ∈ u_ws RX7 TX7 4, w ∈ (.code yX7_countTops cX7_countTops 3 none :: gl) := fun w h => List.mem_cons_of_mem _ (lay_X7 w h)
  have g17 : FG Z 17 7 1 := fg_mk F (C := RX7) (T := TX7) (N := 4) in_X7 rfl (by decide) rfl (List.mem_cons_of_mem _ fk_X7_17)
  have g24 : FG Z 24 7 3 := fg_mk F (C := RX7) (T := TX7) (N := 4) in_X7 rfl (by decide) rfl (List.mem_cons_of_mem _ fk_X7_24)
  have k0 := kd_sc0 hs
  have k1 := kd_sc1 hs
  have k2 := kd_sc2 hs
  have k3 := kd_sc3 hs
  have k4 := kd_sc4 hs
  have hbb : b = 204 ∨ b = 329 := hs
  have lo2 : ∀ i, i ≤ 256 → JJ Z (0, 0) (wA M (b + 4) (OF (M.1 (b + 2)) i)) 23 [some (.ref ((zE Z).2.2 b)), some (.int (nI i)), none] [] := by
    refine jj_loop (256) ?_ ?_
    · refine jj_iload_n F dX7_countTops_23 rfl ?_
      refine jj_sipush F (v := nI 256) dX7_countTops_24 (by decide) ?_
      refine jj_icmp_ge F (tgt := 63) dX7_countTops_27 (by decide) (fun _ => ?_) (fun h9 => absurd (nI_le (by omega) (by omega)) h9)
      exact ret _ _ _ dX7_countTops_63 rfl
    · intro i hi ih
      refine jj_iload_n F dX7_countTops_23 rfl ?_
      refine jj_sipush F (v := nI 256) dX7_countTops_24 (by decide) ?_
      refine jj_icmp_ge F (tgt := 63) dX7_countTops_27 (by decide) (fun h9 => absurd h9 (nI_ge (by omega) (by omega))) (fun _ => ?_)
      refine jj_aload_n F dX7_countTops_30 rfl ?_
      refine jj_getr F g17 (by assumption) (by rfl) dX7_countTops_31 ?_
      refine jj_iload_n F dX7_countTops_34 rfl ?_
      refine jj_iald F (by assumption) rfl (by omega) dX7_countTops_35 ?_
      rw [wA_n (by omega)]
      refine jj_istore_n F dX7_countTops_36 (by rw [hnl]; decide) ?_
      dsimp only [lq_st, lq_clr, lq_no]
      refine jj_iload_n F dX7_countTops_37 rfl ?_
      refine jj_if_lt F (tgt := 57) dX7_countTops_38 (by decide) (fun h38 => ?_) (fun h38 => ?_)
      · refine jj_iinc F dX7_countTops_57 rfl (by first | exact iinc1 _ | rfl) (by rw [hnl]; decide) ?_
        dsimp only [lq_st, lq_clr, lq_no]
        refine jj_goto F (tgt := 23) dX7_countTops_60 (by decide) ?_
        refine jj_less (L2 := [some (.ref ((zE Z).2.2 b)), some (.int (nI (i + 1))), none]) (less2 _ _ _) ?_
        first
        | (rw [wA_s, wA_wA, OF_put ha hTa]; exact ih)
        | (rw [OF_skip (fun k hk e => by rw [e] at h38; exact nI_pos (by omega) h38)]; exact ih)
        | (rw [OF_skip (fun k hk e => by rw [e] at h44; exact nI_ge hk (by omega) h44)]; exact ih)
      · refine jj_iload_n F dX7_countTops_41 rfl ?_
        refine jj_bipush F (v := nI 60) dX7_countTops_42 (by decide) ?_
        refine jj_icmp_ge F (tgt := 57) dX7_countTops_44 (by decide) (fun h44 => ?_) (fun h44 => ?_)
        · refine jj_iinc F dX7_countTops_57 rfl (by first | exact iinc1 _ | rfl) (by rw [hnl]; decide) ?_
          dsimp only [lq_st, lq_clr, lq_no]
          refine jj_goto F (tgt := 23) dX7_countTops_60 (by decide) ?_
          refine jj_less (L2 := [some (.ref ((zE Z).2.2 b)), some (.int (nI (i + 1))), none]) (less2 _ _ _) ?_
          first
          | (rw [wA_s, wA_wA, OF_put ha hTa]; exact ih)
          | (rw [OF_skip (fun k hk e => by rw [e] at h38; exact nI_pos (by omega) h38)]; exact ih)
          | (rw [OF_skip (fun k hk e => by rw [e] at h44; exact nI_ge hk (by omega) h44)]; exact ih)
        · refine jj_aload_n F dX7_countTops_47 rfl ?_
          refine jj_getr F g24 (by assumption) (by rfl) dX7_countTops_48 ?_
          refine jj_iload_n F dX7_countTops_51 rfl ?_
          obtain ⟨a, ha, hTa⟩ := i32_ix h38 h44 (by omega)
          rw [hTa]
          refine jj_dup2 F dX7_countTops_52 rfl rfl ?_
          refine jj_iald F (by assumption) rfl (by omega) dX7_countTops_53 ?_
          refine jj_iconst F (v := nI 1) dX7_countTops_54 (by decide) ?_
          refine jj_iadd F dX7_countTops_55 ?_
          refine jj_iast F (by assumption) rfl (by omega) dX7_countTops_56 ?_
          refine jj_iinc F dX7_countTops_57 rfl (by first | exact iinc1 _ | rfl) (by rw [hnl]; decide) ?_
          dsimp only [lq_st, lq_clr, lq_no]
          refine jj_goto F (tgt := 23) dX7_countTops_60 (by decide) ?_
          refine jj_less (L2 := [some (.ref ((zE Z).2.2 b)), some (.int (nI (i + 1))), none]) (less2 _ _ _) ?_
          first
          | (rw [wA_s, wA_wA, OF_put ha hTa]; exact ih)
          | (rw [OF_skip (fun k hk e => by rw [e] at h38; exact nI_pos (by omega) h38)]; exact ih)
          | (rw [OF_skip (fun k hk e => by rw [e] at h44; exact nI_ge hk (by omega) h44)]; exact ih)
  have lo : ∀ i, i ≤ 60 → JJ Z (0, 0) (wA M (b + 4) (fl i (fun _ => nI 0) (M.1 (b + 4)))) 2 [some (.ref ((zE Z).2.2 b)), some (.int (nI i)), none] [] := by
    refine jj_loop (60) ?_ ?_
    · refine jj_iload_n F dX7_countTops_2 rfl ?_
      refine jj_bipush F (v := nI 60) dX7_countTops_3 (by decide) ?_
      refine jj_icmp_ge F (tgt := 21) dX7_countTops_5 (by decide) (fun _ => ?_) (fun h9 => absurd (nI_le (by omega) (by omega)) h9)
      refine jj_iconst F (v := nI 0) dX7_countTops_21 (by decide) ?_
      refine jj_istore_n F dX7_countTops_22 (by rw [hnl]; decide) ?_
      dsimp only [lq_st, lq_clr, lq_no]
      refine jj_eqv (meq_fl k4) ?_
      rw [OF_0 (M.1 (b + 2))]
      exact lo2 0 (by omega)
    · intro i hi ih
      refine jj_iload_n F dX7_countTops_2 rfl ?_
      refine jj_bipush F (v := nI 60) dX7_countTops_3 (by decide) ?_
      refine jj_icmp_ge F (tgt := 21) dX7_countTops_5 (by decide) (fun h9 => absurd h9 (nI_ge (by omega) (by omega))) (fun _ => ?_)
      refine jj_aload_n F dX7_countTops_8 rfl ?_
      refine jj_getr F g24 (by assumption) (by rfl) dX7_countTops_9 ?_
      refine jj_iload_n F dX7_countTops_12 rfl ?_
      refine jj_iconst F (v := nI 0) dX7_countTops_13 (by decide) ?_
      refine jj_iast F (by assumption) rfl (by omega) dX7_countTops_14 ?_
      refine jj_iinc F dX7_countTops_15 rfl (by first | exact iinc1 _ | rfl) (by rw [hnl]; decide) ?_
      dsimp only [lq_st, lq_clr, lq_no]
      refine jj_goto F (tgt := 2) dX7_countTops_18 (by decide) ?_
      rw [fl_put rfl]
      exact ih
  refine jj_iconst F (v := nI 0) dX7_countTops_0 (by decide) ?_
  refine jj_istore_n F dX7_countTops_1 (by rw [hnl]; decide) ?_
  dsimp only [lq_st, lq_clr, lq_no]
  refine jj_eqM (fl_0 M (b + 4) (fun _ => nI 0)) ?_
  exact lo 0 (by omega)
set_option maxRecDepth 100000 in
set_option maxHeartbeats 4000000 in
theorem c_X7_paintedCells {l : Launch} {E : Ee} {M : Mm} {b : Nat} (hs : isSc b) : CtI l E yX7_paintedCells (.code yX7_paintedCells cX7_paintedCells 3 (some .int) :: gl) ({ frames := 0, cells := 0, slots := 0, locals := 0 } : Room) M [.ref (E.2.2 b)] 0 0 (fun r M2 => r = nI (fb_ct (fun c => !decide (M.1 (b + 2) c = -1)) 256) ∧ M2 = M) := by
  refine ctI_of (L0 := [some (.ref (E.2.2 b)), none, none]) (by decide) rfl (Nat.le_of_ble_eq_true rfl) rfl ?_
  intro Z hl hE hnl F ret
  subst hE
  have in_X7 : ∀ w ∈ u_ws RX7 TX7 4, w ∈ (.code yX7_paintedCells cX7_paintedCells 3 (some .int) :: gl) := fun w h => List.mem_cons_of_mem _ (lay_X7 w h)
  have g17 : FG Z 17 7 1 := fg_mk F (C := RX7) (T := TX7) (N := 4) in_X7 rfl (by decide) rfl (List.mem_cons_of_mem _ fk_X7_17)
  have k0 := kd_sc0 hs
  have k1 := kd_sc1 hs
  have k2 := kd_sc2 hs
  have k3 := kd_sc3 hs
  have k4 := kd_sc4 hs
  have hbb : b = 204 ∨ b = 329 := hs
  have lo : ∀ i, i ≤ 256 → JJ Z (0, 0) (M) 4 [some (.ref ((zE Z).2.2 b)), some (.int (nI (fb_ct (fun c => !decide (M.1 (b + 2) c = -1)) i))), some (.int (nI i))] [] := by
    refine jj_loop (256) ?_ ?_
    · refine jj_iload_n F dX7_paintedCells_4 rfl ?_
      refine jj_sipush F (v := nI 256) dX7_paintedCells_5 (by decide) ?_
      refine jj_icmp_ge F (tgt := 30) dX7_paintedCells_8 (by decide) (fun _ => ?_) (fun h9 => absurd (nI_le (by omega) (by omega)) h9)
      refine jj_iload_n F dX7_paintedCells_30 rfl ?_
      exact ret _ _ _ _ dX7_paintedCells_31 rfl ⟨rfl, rfl⟩
    · intro i hi ih
      refine jj_iload_n F dX7_paintedCells_4 rfl ?_
      refine jj_sipush F (v := nI 256) dX7_paintedCells_5 (by decide) ?_
      refine jj_icmp_ge F (tgt := 30) dX7_paintedCells_8 (by decide) (fun h9 => absurd h9 (nI_ge (by omega) (by omega))) (fun _ => ?_)
      refine jj_aload_n F dX7_paintedCells_11 rfl ?_
      refine jj_getr F g17 (by assumption) (by rfl) dX7_paintedCells_12 ?_
      refine jj_iload_n F dX7_paintedCells_15 rfl ?_
      refine jj_iald F (by assumption) rfl (by omega) dX7_paintedCells_16 ?_
      refine jj_iconst F (v := -1) dX7_paintedCells_17 (by decide) ?_
      refine jj_icmp_eq F (tgt := 24) dX7_paintedCells_18 (by decide) (fun h18 => ?_) (fun h18 => ?_)
      · refine jj_iinc F dX7_paintedCells_24 rfl (by first | exact iinc1 _ | rfl) (by rw [hnl]; decide) ?_
        dsimp only [lq_st, lq_clr, lq_no]
        refine jj_goto F (tgt := 4) dX7_paintedCells_27 (by decide) ?_
        refine jj_eqL ?_ ih
        simp [fb_ct, h18]
      · refine jj_iinc F dX7_paintedCells_21 rfl (by first | exact iinc1 _ | rfl) (by rw [hnl]; decide) ?_
        dsimp only [lq_st, lq_clr, lq_no]
        refine jj_iinc F dX7_paintedCells_24 rfl (by first | exact iinc1 _ | rfl) (by rw [hnl]; decide) ?_
        dsimp only [lq_st, lq_clr, lq_no]
        refine jj_goto F (tgt := 4) dX7_paintedCells_27 (by decide) ?_
        refine jj_eqL ?_ ih
        simp [fb_ct, h18]
  refine jj_iconst F (v := nI 0) dX7_paintedCells_0 (by decide) ?_
  refine jj_istore_n F dX7_paintedCells_1 (by rw [hnl]; decide) ?_
  dsimp only [lq_st, lq_clr, lq_no]
  refine jj_iconst F (v := nI 0) dX7_paintedCells_2 (by decide) ?_
  refine jj_istore_n F dX7_paintedCells_3 (by rw [hnl]; decide) ?_
  dsimp only [lq_st, lq_clr, lq_no]
  exact lo 0 (by omega)
set_option maxRecDepth 100000 in
set_option maxHeartbeats 4000000 in
theorem c_X7_hiddenOperations {l : Launch} {E : Ee} {M : Mm} {b n : Nat} {t : Int32} {LS : Nat → Nat → Bool} (hs : isSc b) (hn : M.1 5 1 = nI n) (h60 : n ≤ 60) (hL : ∀ i, i < n → M.1 (b + 5 + 2 * i + 1) = rowsOf (LS i)) : CtI l E yX7_hiddenOperations (.code yX7_hiddenOperations cX7_hiddenOperations 5 (some .int) :: gl) ({ frames := 2, cells := 0, slots := 0, locals := 42 } : Room) M [.ref (E.2.2 b), .ref (E.2.2 5), .int t] 0 0 (fun r M2 => r = nI (fb_ct (fun j => decide (M.1 (b + 4) j = 0) && !decide (nI (fb_ct (LS j) 256) ≤ 0) && !vanI (M.1 (7 + 3 * j) 4) (M.1 (7 + 3 * j) 5) t) n) ∧ M2 = M) := by
  refine ctI_of (L0 := [some (.ref (E.2.2 b)), some (.ref (E.2.2 5)), some (.int t), none, none]) (by decide) rfl (Nat.le_of_ble_eq_true rfl) rfl ?_
  intro Z hl hE hnl F ret
  subst hE
  have in_X2 : ∀ w ∈ u_ws RX2 TX2 3, w ∈ (.code yX7_hiddenOperations cX7_hiddenOperations 5 (some .int) :: gl) := fun w h => List.mem_cons_of_mem _ (lay_X2 w h)
  have in_X7 : ∀ w ∈ u_ws RX7 TX7 4, w ∈ (.code yX7_hiddenOperations cX7_hiddenOperations 5 (some .int) :: gl) := fun w h => List.mem_cons_of_mem _ (lay_X7 w h)
  have g11 : FG Z 11 7 0 := fg_mk F (C := RX7) (T := TX7) (N := 4) in_X7 rfl (by decide) rfl (List.mem_cons_of_mem _ fk_X7_11)
  have g24 : FG Z 24 7 3 := fg_mk F (C := RX7) (T := TX7) (N := 4) in_X7 rfl (by decide) rfl (List.mem_cons_of_mem _ fk_X7_24)
  have g28 : FG Z 28 2 1 := fg_mk F (C := RX2) (T := TX2) (N := 3) in_X2 rfl (by decide) rfl (List.mem_cons_of_mem _ fk_X7_28)
  have g37 : FG Z 37 2 0 := fg_mk F (C := RX2) (T := TX2) (N := 3) in_X2 rfl (by decide) rfl (List.mem_cons_of_mem _ fk_X7_37)
  have k0 := kd_sc0 hs
  have k1 := kd_sc1 hs
  have k2 := kd_sc2 hs
  have k3 := kd_sc3 hs
  have k4 := kd_sc4 hs
  have hbb : b = 204 ∨ b = 329 := hs
  have kl := kd_Log
  have ke := kd_ents
  have lo : ∀ i, i ≤ n → JJ Z (0, 0) (M) 5 [some (.ref ((zE Z).2.2 b)), some (.ref ((zE Z).2.2 5)), some (.int t), some (.int (nI (fb_ct (fun j => decide (M.1 (b + 4) j = 0) && !decide (nI (fb_ct (LS j) 256) ≤ 0) && !vanI (M.1 (7 + 3 * j) 4) (M.1 (7 + 3 * j) 5) t) i))), some (.int (nI i))] [] := by
    refine jj_loop (n) ?_ ?_
    · refine jj_iload F dX7_hiddenOperations_5 rfl ?_
      refine jj_aload_n F dX7_hiddenOperations_7 rfl ?_
      refine jj_geti F g28 (by assumption) (by rfl) dX7_hiddenOperations_8 ?_
      rw [hn]
      refine jj_icmp_ge F (tgt := 60) dX7_hiddenOperations_11 (by decide) (fun _ => ?_) (fun h9 => absurd (nI_le (by omega) (by omega)) h9)
      refine jj_iload_n F dX7_hiddenOperations_60 rfl ?_
      exact ret _ _ _ _ dX7_hiddenOperations_61 rfl ⟨rfl, rfl⟩
    · intro i hi ih
      have ko := kd_op i (by omega)
      have csl := cs_sc hs i (by omega)
      obtain ⟨l0, l1⟩ := id csl
      have hSi := hL i hi
      refine jj_iload F dX7_hiddenOperations_5 rfl ?_
      refine jj_aload_n F dX7_hiddenOperations_7 rfl ?_
      refine jj_geti F g28 (by assumption) (by rfl) dX7_hiddenOperations_8 ?_
      rw [hn]
      refine jj_icmp_ge F (tgt := 60) dX7_hiddenOperations_11 (by decide) (fun h9 => absurd h9 (nI_ge (by omega) (by omega))) (fun _ => ?_)
      refine jj_aload_n F dX7_hiddenOperations_14 rfl ?_
      refine jj_getr F g24 (by assumption) (by rfl) dX7_hiddenOperations_15 ?_
      refine jj_iload F dX7_hiddenOperations_18 rfl ?_
      refine jj_iald F (by assumption) rfl (by omega) dX7_hiddenOperations_20 ?_
      refine jj_if_ne F (tgt := 54) dX7_hiddenOperations_21 (by decide) (fun h21 => ?_) (fun h21 => ?_)
      · refine jj_iinc F dX7_hiddenOperations_54 rfl (by first | exact iinc1 _ | rfl) (by rw [hnl]; decide) ?_
        dsimp only [lq_st, lq_clr, lq_no]
        refine jj_goto F (tgt := 5) dX7_hiddenOperations_57 (by decide) ?_
        refine jj_eqL ?_ ih
        first
        | (simp [fb_ct, h21]; done)
        | (simp [fb_ct, h21, h34]; done)
        | (rw [b2i_n0] at h48; simp [fb_ct, h21, h34, h48]; done)
        | (rw [b2i_0] at h48; simp [fb_ct, h21, h34, h48]; done)
      · refine jj_aload_n F dX7_hiddenOperations_24 rfl ?_
        refine jj_getr F g11 (by assumption) (by rfl) dX7_hiddenOperations_25 ?_
        refine jj_iload F dX7_hiddenOperations_28 rfl ?_
        refine jj_aald F (by assumption) rfl (by omega) dX7_hiddenOperations_30 ?_
        refine jj_callVi (na := 0) F (c_X0_size (by assumption) (by assumption)) (gl_V mk_X7_105 vw_X0_size) rfl rfl rfl (by decide +kernel) ⟨Nat.le_of_ble_eq_true rfl, Nat.le_of_ble_eq_true rfl⟩ (by assumption) rfl rfl rfl (Nat.le_of_ble_eq_true rfl) ⟨Nat.le_of_ble_eq_true rfl, Nat.le_of_ble_eq_true rfl⟩ dX7_hiddenOperations_31 (fun r31 M31 hp31 => ?_)
        obtain ⟨rfl, rfl⟩ := symm2 hp31
        refine jj_if_le F (tgt := 54) dX7_hiddenOperations_34 (by decide) (fun h34 => ?_) (fun h34 => ?_)
        · refine jj_iinc F dX7_hiddenOperations_54 rfl (by first | exact iinc1 _ | rfl) (by rw [hnl]; decide) ?_
          dsimp only [lq_st, lq_clr, lq_no]
          refine jj_goto F (tgt := 5) dX7_hiddenOperations_57 (by decide) ?_
          refine jj_eqL ?_ ih
          first
          | (simp [fb_ct, h21]; done)
          | (simp [fb_ct, h21, h34]; done)
          | (rw [b2i_n0] at h48; simp [fb_ct, h21, h34, h48]; done)
          | (rw [b2i_0] at h48; simp [fb_ct, h21, h34, h48]; done)
        · refine jj_aload_n F dX7_hiddenOperations_37 rfl ?_
          refine jj_getr F g37 (by assumption) (by rfl) dX7_hiddenOperations_38 ?_
          refine jj_iload F dX7_hiddenOperations_41 rfl ?_
          refine jj_aald F (by assumption) rfl (by omega) dX7_hiddenOperations_43 ?_
          refine jj_iload_n F dX7_hiddenOperations_44 rfl ?_
          refine jj_callVi (na := 1) F (c_X4_hasVanished (by omega)) (gl_V mk_X7_57 vw_X4_hasVanished) rfl rfl rfl (by decide +kernel) ⟨Nat.le_of_ble_eq_true rfl, Nat.le_of_ble_eq_true rfl⟩ (by assumption) rfl rfl rfl (Nat.le_of_ble_eq_true rfl) ⟨Nat.le_of_ble_eq_true rfl, Nat.le_of_ble_eq_true rfl⟩ dX7_hiddenOperations_45 (fun r45 M45 hp45 => ?_)
          obtain ⟨rfl, rfl⟩ := symm2 hp45
          refine jj_if_ne F (tgt := 54) dX7_hiddenOperations_48 (by decide) (fun h48 => ?_) (fun h48 => ?_)
          · refine jj_iinc F dX7_hiddenOperations_54 rfl (by first | exact iinc1 _ | rfl) (by rw [hnl]; decide) ?_
            dsimp only [lq_st, lq_clr, lq_no]
            refine jj_goto F (tgt := 5) dX7_hiddenOperations_57 (by decide) ?_
            refine jj_eqL ?_ ih
            first
            | (simp [fb_ct, h21]; done)
            | (simp [fb_ct, h21, h34]; done)
            | (rw [b2i_n0] at h48; simp [fb_ct, h21, h34, h48]; done)
            | (rw [b2i_0] at h48; simp [fb_ct, h21, h34, h48]; done)
          · refine jj_iinc F dX7_hiddenOperations_51 rfl (by first | exact iinc1 _ | rfl) (by rw [hnl]; decide) ?_
            dsimp only [lq_st, lq_clr, lq_no]
            refine jj_iinc F dX7_hiddenOperations_54 rfl (by first | exact iinc1 _ | rfl) (by rw [hnl]; decide) ?_
            dsimp only [lq_st, lq_clr, lq_no]
            refine jj_goto F (tgt := 5) dX7_hiddenOperations_57 (by decide) ?_
            refine jj_eqL ?_ ih
            first
            | (simp [fb_ct, h21]; done)
            | (simp [fb_ct, h21, h34]; done)
            | (rw [b2i_n0] at h48; simp [fb_ct, h21, h34, h48]; done)
            | (rw [b2i_0] at h48; simp [fb_ct, h21, h34, h48]; done)
  refine jj_iconst F (v := nI 0) dX7_hiddenOperations_0 (by decide) ?_
  refine jj_istore_n F dX7_hiddenOperations_1 (by rw [hnl]; decide) ?_
  dsimp only [lq_st, lq_clr, lq_no]
  refine jj_iconst F (v := nI 0) dX7_hiddenOperations_2 (by decide) ?_
  refine jj_istore F dX7_hiddenOperations_3 (by rw [hnl]; decide) ?_
  dsimp only [lq_st, lq_clr, lq_no]
  exact lo 0 (by omega)
set_option maxRecDepth 100000 in
set_option maxHeartbeats 4000000 in
theorem c_X7_collectColor {l : Launch} {E : Ee} {M : Mm} {b k : Nat} {col : Int32} (hs : isSc b) (hk : isCS k) (hne : k + 1 ≠ b + 3) : CtV l E yX7_collectColor (.code yX7_collectColor cX7_collectColor 4 none :: gl) ({ frames := 1, cells := 0, slots := 0, locals := 21 } : Room) M [.ref (E.2.2 b), .int col, .ref (E.2.2 k)] 0 0 (fun M2 => M2 = wA M (k + 1) (rowsOf (fun c => decide (c < 256) && decide (M.1 (b + 3) c = col)))) := by
  refine ctV_of (L0 := [some (.ref (E.2.2 b)), some (.int col), some (.ref (E.2.2 k)), none]) (by decide) rfl (Nat.le_of_ble_eq_true rfl) rfl ?_
  intro Z hl hE hnl F ret
  subst hE
  have in_X7 : ∀ w ∈ u_ws RX7 TX7 4, w ∈ (.code yX7_collectColor cX7_collectColor 4 none :: gl) := fun w h => List.mem_cons_of_mem _ (lay_X7 w h)
  have g21 : FG Z 21 7 2 := fg_mk F (C := RX7) (T := TX7) (N := 4) in_X7 rfl (by decide) rfl (List.mem_cons_of_mem _ fk_X7_21)
  have k0 := kd_sc0 hs
  have k1 := kd_sc1 hs
  have k2 := kd_sc2 hs
  have k3 := kd_sc3 hs
  have k4 := kd_sc4 hs
  have hbb : b = 204 ∨ b = 329 := hs
  obtain ⟨h0, h1⟩ := id hk
  have lo : ∀ i, i ≤ 256 → JJ Z (0, 0) (wA M (k + 1) (rowsOf (fun c => decide (c < i) && decide (M.1 (b + 3) c = col)))) 6 [some (.ref ((zE Z).2.2 b)), some (.int col), some (.ref ((zE Z).2.2 k)), some (.int (nI i))] [] := by
    refine jj_loop (256) ?_ ?_
    · refine jj_iload_n F dX7_collectColor_6 rfl ?_
      refine jj_sipush F (v := nI 256) dX7_collectColor_7 (by decide) ?_
      refine jj_icmp_ge F (tgt := 34) dX7_collectColor_10 (by decide) (fun _ => ?_) (fun h9 => absurd (nI_le (by omega) (by omega)) h9)
      exact ret _ _ _ dX7_collectColor_34 rfl
    · intro i hi ih
      have hSi : (wA M (k + 1) (rowsOf (fun c => decide (c < i) && decide (M.1 (b + 3) c = col)))).1 (k + 1) = rowsOf (fun c => decide (c < i) && decide (M.1 (b + 3) c = col)) := wA_s _ _ _
      refine jj_iload_n F dX7_collectColor_6 rfl ?_
      refine jj_sipush F (v := nI 256) dX7_collectColor_7 (by decide) ?_
      refine jj_icmp_ge F (tgt := 34) dX7_collectColor_10 (by decide) (fun h9 => absurd h9 (nI_ge (by omega) (by omega))) (fun _ => ?_)
      refine jj_aload_n F dX7_collectColor_13 rfl ?_
      refine jj_getr F g21 (by assumption) (by rfl) dX7_collectColor_14 ?_
      refine jj_iload_n F dX7_collectColor_17 rfl ?_
      refine jj_iald F (by assumption) rfl (by omega) dX7_collectColor_18 ?_
      rw [wA_n (Ne.symm hne)]
      refine jj_iload_n F dX7_collectColor_19 rfl ?_
      refine jj_icmp_ne F (tgt := 28) dX7_collectColor_20 (by decide) (fun h20 => ?_) (fun h20 => ?_)
      · refine jj_iinc F dX7_collectColor_28 rfl (by first | exact iinc1 _ | rfl) (by rw [hnl]; decide) ?_
        dsimp only [lq_st, lq_clr, lq_no]
        refine jj_goto F (tgt := 6) dX7_collectColor_31 (by decide) ?_
        refine jj_eqM ?_ ih
        congr 1
        congr 1
        funext c
        first
        | (by_cases q : c = i; (subst q; simp [h20]); simp [q, show (c < i + 1) = (c < i) by simp; omega]; done)
      · refine jj_aload_n F dX7_collectColor_23 rfl ?_
        refine jj_iload_n F dX7_collectColor_24 rfl ?_
        refine jj_callVv (na := 1) F (c_X0_include (by assumption) (by assumption) (by omega)) (gl_V mk_X7_108 vw_X0_include) rfl rfl rfl (by decide +kernel) ⟨Nat.le_of_ble_eq_true rfl, Nat.le_of_ble_eq_true rfl⟩ (by assumption) rfl rfl rfl (Nat.le_of_ble_eq_true rfl) ⟨Nat.le_of_ble_eq_true rfl, Nat.le_of_ble_eq_true rfl⟩ dX7_collectColor_25 (fun M25 hp25 => ?_)
        obtain rfl := hp25.symm
        rw [wA_wA]
        refine jj_iinc F dX7_collectColor_28 rfl (by first | exact iinc1 _ | rfl) (by rw [hnl]; decide) ?_
        dsimp only [lq_st, lq_clr, lq_no]
        refine jj_goto F (tgt := 6) dX7_collectColor_31 (by decide) ?_
        refine jj_eqM ?_ ih
        congr 1
        congr 1
        funext c
        first
        | (by_cases q : c = i; (subst q; simp [h20]); simp [q, show (c < i + 1) = (c < i) by simp; omega]; done)
  refine jj_aload_n F dX7_collectColor_0 rfl ?_
  refine jj_callVv (na := 0) F (c_X0_becomeEmpty (by assumption)) (gl_V mk_X7_34 vw_X0_becomeEmpty) rfl rfl rfl (by decide +kernel) ⟨Nat.le_of_ble_eq_true rfl, Nat.le_of_ble_eq_true rfl⟩ (by assumption) rfl rfl rfl (Nat.le_of_ble_eq_true rfl) ⟨Nat.le_of_ble_eq_true rfl, Nat.le_of_ble_eq_true rfl⟩ dX7_collectColor_1 (fun M1 hp1 => ?_)
  obtain rfl := hp1.symm
  refine jj_iconst F (v := nI 0) dX7_collectColor_4 (by decide) ?_
  refine jj_istore_n F dX7_collectColor_5 (by rw [hnl]; decide) ?_
  dsimp only [lq_st, lq_clr, lq_no]
  refine jj_eqM ?_ (lo 0 (by omega))
  congr 1
  congr 1
  funext c
  simp
theorem less6 (a b c d e f g : Option Value) : ∀ (i : Nat) (v : Value), ([a, b, c, d, e, f, none] : List (Option Value))[i]? = some (some v) → ([a, b, c, d, e, f, g] : List (Option Value))[i]? = some (some v)
  | 0, _, h => h
  | 1, _, h => h
  | 2, _, h => h
  | 3, _, h => h
  | 4, _, h => h
  | 5, _, h => h
  | 6, _, h => by simp at h
  | n + 7, _, h => by simp at h
theorem less6b (a b c d e f g : Option Value) : ∀ (i : Nat) (v : Value), ([a, b, c, d, e, none, none] : List (Option Value))[i]? = some (some v) → ([a, b, c, d, e, f, g] : List (Option Value))[i]? = some (some v)
  | 0, _, h => h
  | 1, _, h => h
  | 2, _, h => h
  | 3, _, h => h
  | 4, _, h => h
  | 5, _, h => by simp at h
  | 6, _, h => by simp at h
  | n + 7, _, h => by simp at h
set_option maxRecDepth 100000 in
set_option maxHeartbeats 4000000 in
theorem c_X7_show {l : Launch} {E : Ee} {M : Mm} {b n : Nat} {t sw : Int32} {C : Nat → Nat → Bool} (hs : isSc b) (hn : M.1 5 1 = nI n) (h60 : n ≤ 60) (hC : ∀ i, i < 60 → M.1 (7 + 3 * i + 1 + 1) = rowsOf (C i)) : CtV l E yX7_show (.code yX7_show cX7_show 7 none :: gl) ({ frames := 3, cells := 0, slots := 0, locals := 69 } : Room) M [.ref (E.2.2 b), .ref (E.2.2 5), .int t, .int sw] 0 0 (fun M2 => M2 = shM M b C n t sw) := by
  refine ctV_of (L0 := [some (.ref (E.2.2 b)), some (.ref (E.2.2 5)), some (.int t), some (.int sw), none, none, none]) (by decide) rfl (Nat.le_of_ble_eq_true rfl) rfl ?_
  intro Z hl hE hnl F ret
  subst hE
  have in_X2 : ∀ w ∈ u_ws RX2 TX2 3, w ∈ (.code yX7_show cX7_show 7 none :: gl) := fun w h => List.mem_cons_of_mem _ (lay_X2 w h)
  have in_X4 : ∀ w ∈ u_ws RX4 TX4 9, w ∈ (.code yX7_show cX7_show 7 none :: gl) := fun w h => List.mem_cons_of_mem _ (lay_X4 w h)
  have in_X7 : ∀ w ∈ u_ws RX7 TX7 4, w ∈ (.code yX7_show cX7_show 7 none :: gl) := fun w h => List.mem_cons_of_mem _ (lay_X7 w h)
  have g11 : FG Z 11 7 0 := fg_mk F (C := RX7) (T := TX7) (N := 4) in_X7 rfl (by decide) rfl (List.mem_cons_of_mem _ fk_X7_11)
  have g28 : FG Z 28 2 1 := fg_mk F (C := RX2) (T := TX2) (N := 3) in_X2 rfl (by decide) rfl (List.mem_cons_of_mem _ fk_X7_28)
  have g37 : FG Z 37 2 0 := fg_mk F (C := RX2) (T := TX2) (N := 3) in_X2 rfl (by decide) rfl (List.mem_cons_of_mem _ fk_X7_37)
  have g41 : FG Z 41 4 6 := fg_mk F (C := RX4) (T := TX4) (N := 9) in_X4 rfl (by decide) rfl (List.mem_cons_of_mem _ fk_X7_41)
  have g54 : FG Z 54 4 2 := fg_mk F (C := RX4) (T := TX4) (N := 9) in_X4 rfl (by decide) rfl (List.mem_cons_of_mem _ fk_X7_54)
  have g61 : FG Z 61 4 3 := fg_mk F (C := RX4) (T := TX4) (N := 9) in_X4 rfl (by decide) rfl (List.mem_cons_of_mem _ fk_X7_61)
  have k0 := kd_sc0 hs
  have k1 := kd_sc1 hs
  have k2 := kd_sc2 hs
  have k3 := kd_sc3 hs
  have k4 := kd_sc4 hs
  have hbb : b = 204 ∨ b = 329 := hs
  have kl := kd_Log
  have ke := kd_ents
  have ly : ∀ l, l ≤ 3 → JJ Z (0, 0) (wA (wA (famL b n (LSf M C sw n) M) (b + 2) (ptLy (fun k => M.1 (7 + 3 * k) 2) (fun k => vanI (M.1 (7 + 3 * k) 4) (M.1 (7 + 3 * k) 5) t) (LSf M C sw n) nI n (fun _ => -1) l)) (b + 3) (ptLy (fun k => M.1 (7 + 3 * k) 2) (fun k => vanI (M.1 (7 + 3 * k) 4) (M.1 (7 + 3 * k) 5) t) (LSf M C sw n) (fun k => M.1 (7 + 3 * k) 3) n (fun _ => nI 0) l)) 66 [some (.ref ((zE Z).2.2 b)), some (.ref ((zE Z).2.2 5)), some (.int t), some (.int sw), some (.int (nI l)), none, none] [] := by
    refine jj_loop 3 ?_ ?_
    · refine jj_iload F dX7_show_66 rfl ?_
      refine jj_iconst F (v := nI 3) dX7_show_68 (by decide) ?_
      refine jj_icmp_ge F (tgt := 135) dX7_show_69 (by decide) (fun _ => ?_) (fun h9 => absurd (nI_le (by omega) (by omega)) h9)
      refine jj_aload_n F dX7_show_135 rfl ?_
      refine jj_callVv (na := 0) F (c_X7_countTops hs) (gl_V mk_X7_67 vw_X7_countTops) rfl rfl rfl (by decide +kernel) ⟨Nat.le_of_ble_eq_true rfl, Nat.le_of_ble_eq_true rfl⟩ (by assumption) rfl rfl rfl (Nat.le_of_ble_eq_true rfl) ⟨Nat.le_of_ble_eq_true rfl, Nat.le_of_ble_eq_true rfl⟩ dX7_show_136 (fun M136 hp136 => ?_)
      obtain rfl := hp136.symm
      refine ret _ _ _ dX7_show_139 ?_
      unfold shM shTop shCol
      rw [wA_n (show b + 2 ≠ b + 3 by omega), wA_s]
    · intro l hl3 ihl
      have li : ∀ i, i ≤ n → JJ Z (0, 0) ((wA (wA (famL b n (LSf M C sw n) M) (b + 2) (ptK (fun k => M.1 (7 + 3 * k) 2) (fun k => vanI (M.1 (7 + 3 * k) 4) (M.1 (7 + 3 * k) 5) t) (LSf M C sw n) nI l (ptLy (fun k => M.1 (7 + 3 * k) 2) (fun k => vanI (M.1 (7 + 3 * k) 4) (M.1 (7 + 3 * k) 5) t) (LSf M C sw n) nI n (fun _ => -1) l) i)) (b + 3) (ptK (fun k => M.1 (7 + 3 * k) 2) (fun k => vanI (M.1 (7 + 3 * k) 4) (M.1 (7 + 3 * k) 5) t) (LSf M C sw n) (fun k => M.1 (7 + 3 * k) 3) l (ptLy (fun k => M.1 (7 + 3 * k) 2) (fun k => vanI (M.1 (7 + 3 * k) 4) (M.1 (7 + 3 * k) 5) t) (LSf M C sw n) (fun k => M.1 (7 + 3 * k) 3) n (fun _ => nI 0) l) i))) 75 [some (.ref ((zE Z).2.2 b)), some (.ref ((zE Z).2.2 5)), some (.int t), some (.int sw), some (.int (nI l)), some (.int (nI i)), none] [] := by
        refine jj_loop (n) ?_ ?_
        · have e5 : (wA (wA (famL b n (LSf M C sw n) M) (b + 2) (ptK (fun k => M.1 (7 + 3 * k) 2) (fun k => vanI (M.1 (7 + 3 * k) 4) (M.1 (7 + 3 * k) 5) t) (LSf M C sw n) nI l (ptLy (fun k => M.1 (7 + 3 * k) 2) (fun k => vanI (M.1 (7 + 3 * k) 4) (M.1 (7 + 3 * k) 5) t) (LSf M C sw n) nI n (fun _ => -1) l) n)) (b + 3) (ptK (fun k => M.1 (7 + 3 * k) 2) (fun k => vanI (M.1 (7 + 3 * k) 4) (M.1 (7 + 3 * k) 5) t) (LSf M C sw n) (fun k => M.1 (7 + 3 * k) 3) l (ptLy (fun k => M.1 (7 + 3 * k) 2) (fun k => vanI (M.1 (7 + 3 * k) 4) (M.1 (7 + 3 * k) 5) t) (LSf M C sw n) (fun k => M.1 (7 + 3 * k) 3) n (fun _ => nI 0) l) n)).1 5 1 = nI n := by rw [wA_n (by omega), wA_n (by omega), famL_out (by omega)]; exact hn
          refine jj_iload F dX7_show_75 rfl ?_
          refine jj_aload_n F dX7_show_77 rfl ?_
          refine jj_geti F g28 (by assumption) (by rfl) dX7_show_78 ?_
          rw [e5]
          refine jj_icmp_ge F (tgt := 129) dX7_show_81 (by decide) (fun _ => ?_) (fun h9 => absurd (nI_le (by omega) (by omega)) h9)
          refine jj_iinc F dX7_show_129 rfl (iinc1 _) (by rw [hnl]; decide) ?_
          dsimp only [lq_st, lq_clr, lq_no]
          refine jj_goto F (tgt := 66) dX7_show_132 (by decide) ?_
          refine jj_less (L2 := [some (.ref ((zE Z).2.2 b)), some (.ref ((zE Z).2.2 5)), some (.int t), some (.int sw), some (.int (nI (l + 1))), none, none]) (less6b _ _ _ _ _ _ _) ?_
          exact ihl
        · intro i hi ih
          have ko := kd_op i (by omega)
          have eo : (wA (wA (famL b n (LSf M C sw n) M) (b + 2) (ptK (fun k => M.1 (7 + 3 * k) 2) (fun k => vanI (M.1 (7 + 3 * k) 4) (M.1 (7 + 3 * k) 5) t) (LSf M C sw n) nI l (ptLy (fun k => M.1 (7 + 3 * k) 2) (fun k => vanI (M.1 (7 + 3 * k) 4) (M.1 (7 + 3 * k) 5) t) (LSf M C sw n) nI n (fun _ => -1) l) i)) (b + 3) (ptK (fun k => M.1 (7 + 3 * k) 2) (fun k => vanI (M.1 (7 + 3 * k) 4) (M.1 (7 + 3 * k) 5) t) (LSf M C sw n) (fun k => M.1 (7 + 3 * k) 3) l (ptLy (fun k => M.1 (7 + 3 * k) 2) (fun k => vanI (M.1 (7 + 3 * k) 4) (M.1 (7 + 3 * k) 5) t) (LSf M C sw n) (fun k => M.1 (7 + 3 * k) 3) n (fun _ => nI 0) l) i)).1 (7 + 3 * i) = M.1 (7 + 3 * i) := by rw [wA_n (by omega), wA_n (by omega), famL_out (by omega)]
          have e5 : (wA (wA (famL b n (LSf M C sw n) M) (b + 2) (ptK (fun k => M.1 (7 + 3 * k) 2) (fun k => vanI (M.1 (7 + 3 * k) 4) (M.1 (7 + 3 * k) 5) t) (LSf M C sw n) nI l (ptLy (fun k => M.1 (7 + 3 * k) 2) (fun k => vanI (M.1 (7 + 3 * k) 4) (M.1 (7 + 3 * k) 5) t) (LSf M C sw n) nI n (fun _ => -1) l) i)) (b + 3) (ptK (fun k => M.1 (7 + 3 * k) 2) (fun k => vanI (M.1 (7 + 3 * k) 4) (M.1 (7 + 3 * k) 5) t) (LSf M C sw n) (fun k => M.1 (7 + 3 * k) 3) l (ptLy (fun k => M.1 (7 + 3 * k) 2) (fun k => vanI (M.1 (7 + 3 * k) 4) (M.1 (7 + 3 * k) 5) t) (LSf M C sw n) (fun k => M.1 (7 + 3 * k) 3) n (fun _ => nI 0) l) i)).1 5 1 = nI n := by rw [wA_n (by omega), wA_n (by omega), famL_out (by omega)]; exact hn
          have hSi : (wA (wA (famL b n (LSf M C sw n) M) (b + 2) (ptK (fun k => M.1 (7 + 3 * k) 2) (fun k => vanI (M.1 (7 + 3 * k) 4) (M.1 (7 + 3 * k) 5) t) (LSf M C sw n) nI l (ptLy (fun k => M.1 (7 + 3 * k) 2) (fun k => vanI (M.1 (7 + 3 * k) 4) (M.1 (7 + 3 * k) 5) t) (LSf M C sw n) nI n (fun _ => -1) l) i)) (b + 3) (ptK (fun k => M.1 (7 + 3 * k) 2) (fun k => vanI (M.1 (7 + 3 * k) 4) (M.1 (7 + 3 * k) 5) t) (LSf M C sw n) (fun k => M.1 (7 + 3 * k) 3) l (ptLy (fun k => M.1 (7 + 3 * k) 2) (fun k => vanI (M.1 (7 + 3 * k) 4) (M.1 (7 + 3 * k) 5) t) (LSf M C sw n) (fun k => M.1 (7 + 3 * k) 3) n (fun _ => nI 0) l) i)).1 (b + 5 + 2 * i + 1) = rowsOf ((LSf M C sw n) i) := by rw [wA_n (by omega), wA_n (by omega), famL_in hi]
          refine jj_iload F dX7_show_75 rfl ?_
          refine jj_aload_n F dX7_show_77 rfl ?_
          refine jj_geti F g28 (by assumption) (by rfl) dX7_show_78 ?_
          rw [e5]
          refine jj_icmp_ge F (tgt := 129) dX7_show_81 (by decide) (fun h9 => absurd h9 (nI_ge (by omega) (by omega))) (fun _ => ?_)
          refine jj_aload_n F dX7_show_84 rfl ?_
          refine jj_getr F g37 (by assumption) (by rfl) dX7_show_85 ?_
          refine jj_iload F dX7_show_88 rfl ?_
          refine jj_aald F (by assumption) rfl (by omega) dX7_show_90 ?_
          refine jj_astore F dX7_show_91 (by rw [hnl]; decide) ?_
          dsimp only [lq_st, lq_clr, lq_no]
          refine jj_aload F dX7_show_93 rfl ?_
          refine jj_geti F g54 (by assumption) (by rfl) dX7_show_95 ?_
          rw [eo]
          refine jj_iload F dX7_show_98 rfl ?_
          refine jj_icmp_ne F (tgt := 123) dX7_show_100 (by decide) (fun h100 => ?_) (fun h100 => ?_)
          · refine jj_iinc F dX7_show_123 rfl (by first | exact iinc1 _ | rfl) (by rw [hnl]; decide) ?_
            dsimp only [lq_st, lq_clr, lq_no]
            refine jj_goto F (tgt := 75) dX7_show_126 (by decide) ?_
            refine jj_less (L2 := [some (.ref ((zE Z).2.2 b)), some (.ref ((zE Z).2.2 5)), some (.int t), some (.int sw), some (.int (nI l)), some (.int (nI (i + 1))), none]) (less6 _ _ _ _ _ _ _) ?_
            first
            | (refine jj_eqM ?_ ih; simp only [ptK, h100, false_and, if_false]; done)
            | (rw [b2i_n0] at h109; refine jj_eqM ?_ ih; simp only [ptK, h100, h109, Bool.true_eq_false, and_false, if_false]; done)
            | (rw [b2i_0] at h109; refine jj_eqM ?_ ih; rw [wA_s, wA_n (show b + 2 ≠ b + 3 by omega), wA_s, wA_comm (show b + 3 ≠ b + 2 by omega), wA_wA, wA_wA]; simp only [ptK, h100, h109, and_self, if_true]; done)
          · refine jj_aload F dX7_show_103 rfl ?_
            refine jj_iload_n F dX7_show_105 rfl ?_
            refine jj_callVi (na := 1) F (c_X4_hasVanished (by omega)) (gl_V mk_X7_57 vw_X4_hasVanished) rfl rfl rfl (by decide +kernel) ⟨Nat.le_of_ble_eq_true rfl, Nat.le_of_ble_eq_true rfl⟩ (by assumption) rfl rfl rfl (Nat.le_of_ble_eq_true rfl) ⟨Nat.le_of_ble_eq_true rfl, Nat.le_of_ble_eq_true rfl⟩ dX7_show_106 (fun r106 M106 hp106 => ?_)
            obtain ⟨rfl, rfl⟩ := symm2 hp106
            rw [eo]
            refine jj_if_ne F (tgt := 123) dX7_show_109 (by decide) (fun h109 => ?_) (fun h109 => ?_)
            · refine jj_iinc F dX7_show_123 rfl (by first | exact iinc1 _ | rfl) (by rw [hnl]; decide) ?_
              dsimp only [lq_st, lq_clr, lq_no]
              refine jj_goto F (tgt := 75) dX7_show_126 (by decide) ?_
              refine jj_less (L2 := [some (.ref ((zE Z).2.2 b)), some (.ref ((zE Z).2.2 5)), some (.int t), some (.int sw), some (.int (nI l)), some (.int (nI (i + 1))), none]) (less6 _ _ _ _ _ _ _) ?_
              first
              | (refine jj_eqM ?_ ih; simp only [ptK, h100, false_and, if_false]; done)
              | (rw [b2i_n0] at h109; refine jj_eqM ?_ ih; simp only [ptK, h100, h109, Bool.true_eq_false, and_false, if_false]; done)
              | (rw [b2i_0] at h109; refine jj_eqM ?_ ih; rw [wA_s, wA_n (show b + 2 ≠ b + 3 by omega), wA_s, wA_comm (show b + 3 ≠ b + 2 by omega), wA_wA, wA_wA]; simp only [ptK, h100, h109, and_self, if_true]; done)
            · refine jj_aload_n F dX7_show_112 rfl ?_
              refine jj_iload F dX7_show_113 rfl ?_
              refine jj_aload F dX7_show_115 rfl ?_
              refine jj_geti F g61 (by assumption) (by rfl) dX7_show_117 ?_
              rw [eo]
              refine jj_callVv (na := 2) F (c_X7_paint (S := (LSf M C sw n) i) hs (by omega) hSi) (gl_V mk_X7_64 vw_X7_paint) rfl rfl rfl (by decide +kernel) ⟨Nat.le_of_ble_eq_true rfl, Nat.le_of_ble_eq_true rfl⟩ (by assumption) rfl rfl rfl (Nat.le_of_ble_eq_true rfl) ⟨Nat.le_of_ble_eq_true rfl, Nat.le_of_ble_eq_true rfl⟩ dX7_show_120 (fun M120 hp120 => ?_)
              obtain rfl := hp120.symm
              refine jj_iinc F dX7_show_123 rfl (by first | exact iinc1 _ | rfl) (by rw [hnl]; decide) ?_
              dsimp only [lq_st, lq_clr, lq_no]
              refine jj_goto F (tgt := 75) dX7_show_126 (by decide) ?_
              refine jj_less (L2 := [some (.ref ((zE Z).2.2 b)), some (.ref ((zE Z).2.2 5)), some (.int t), some (.int sw), some (.int (nI l)), some (.int (nI (i + 1))), none]) (less6 _ _ _ _ _ _ _) ?_
              first
              | (refine jj_eqM ?_ ih; simp only [ptK, h100, false_and, if_false]; done)
              | (rw [b2i_n0] at h109; refine jj_eqM ?_ ih; simp only [ptK, h100, h109, Bool.true_eq_false, and_false, if_false]; done)
              | (rw [b2i_0] at h109; refine jj_eqM ?_ ih; rw [wA_s, wA_n (show b + 2 ≠ b + 3 by omega), wA_s, wA_comm (show b + 3 ≠ b + 2 by omega), wA_wA, wA_wA]; simp only [ptK, h100, h109, and_self, if_true]; done)
      refine jj_iload F dX7_show_66 rfl ?_
      refine jj_iconst F (v := nI 3) dX7_show_68 (by decide) ?_
      refine jj_icmp_ge F (tgt := 135) dX7_show_69 (by decide) (fun h9 => absurd h9 (nI_ge (by omega) (by omega))) (fun _ => ?_)
      refine jj_iconst F (v := nI 0) dX7_show_72 (by decide) ?_
      refine jj_istore F dX7_show_73 (by rw [hnl]; decide) ?_
      dsimp only [lq_st, lq_clr, lq_no]
      exact li 0 (by omega)
  have lo : ∀ i, i ≤ n → JJ Z (0, 0) (famL b i (LSf M C sw i) M) 3 [some (.ref ((zE Z).2.2 b)), some (.ref ((zE Z).2.2 5)), some (.int t), some (.int sw), some (.int (nI i)), none, none] [] := by
    refine jj_loop (n) ?_ ?_
    · have e5 : (famL b n (LSf M C sw n) M).1 5 1 = nI n := by rw [famL_out (by omega)]; exact hn
      refine jj_iload F dX7_show_3 rfl ?_
      refine jj_aload_n F dX7_show_5 rfl ?_
      refine jj_geti F g28 (by assumption) (by rfl) dX7_show_6 ?_
      rw [e5]
      refine jj_icmp_ge F (tgt := 59) dX7_show_9 (by decide) (fun _ => ?_) (fun h9 => absurd (nI_le (by omega) (by omega)) h9)
      refine jj_aload_n F dX7_show_59 rfl ?_
      refine jj_callVv (na := 0) F (c_X7_becomeBlank hs) (gl_V mk_X7_51 vw_X7_becomeBlank) rfl rfl rfl (by decide +kernel) ⟨Nat.le_of_ble_eq_true rfl, Nat.le_of_ble_eq_true rfl⟩ (by assumption) rfl rfl rfl (Nat.le_of_ble_eq_true rfl) ⟨Nat.le_of_ble_eq_true rfl, Nat.le_of_ble_eq_true rfl⟩ dX7_show_60 (fun M60 hp60 => ?_)
      obtain rfl := hp60.symm
      refine jj_iconst F (v := nI 0) dX7_show_63 (by decide) ?_
      refine jj_istore F dX7_show_64 (by rw [hnl]; decide) ?_
      dsimp only [lq_st, lq_clr, lq_no]
      exact ly 0 (by omega)
    · intro i hi ih
      have ko := kd_op i (by omega)
      have csl := cs_sc hs i (by omega)
      obtain ⟨l0, l1⟩ := id csl
      have e5 : (famL b i (LSf M C sw i) M).1 5 1 = nI n := by rw [famL_out (by omega)]; exact hn
      have eo : ∀ (LT : Nat → Nat → Bool), (famL b (i + 1) LT M).1 (7 + 3 * i) = M.1 (7 + 3 * i) := fun LT => famL_out (by omega)
      refine jj_iload F dX7_show_3 rfl ?_
      refine jj_aload_n F dX7_show_5 rfl ?_
      refine jj_geti F g28 (by assumption) (by rfl) dX7_show_6 ?_
      rw [e5]
      refine jj_icmp_ge F (tgt := 59) dX7_show_9 (by decide) (fun h9 => absurd h9 (nI_ge (by omega) (by omega))) (fun _ => ?_)
      refine jj_aload_n F dX7_show_12 rfl ?_
      refine jj_getr F g11 (by assumption) (by rfl) dX7_show_13 ?_
      refine jj_iload F dX7_show_16 rfl ?_
      refine jj_aald F (by assumption) rfl (by omega) dX7_show_18 ?_
      refine jj_callVv (na := 0) F (c_X0_becomeEmpty (by assumption)) (gl_V mk_X7_34 vw_X0_becomeEmpty) rfl rfl rfl (by decide +kernel) ⟨Nat.le_of_ble_eq_true rfl, Nat.le_of_ble_eq_true rfl⟩ (by assumption) rfl rfl rfl (Nat.le_of_ble_eq_true rfl) ⟨Nat.le_of_ble_eq_true rfl, Nat.le_of_ble_eq_true rfl⟩ dX7_show_19 (fun M19 hp19 => ?_)
      obtain rfl := hp19.symm
      rw [famL_next]
      refine jj_aload_n F dX7_show_22 rfl ?_
      refine jj_getr F g37 (by assumption) (by rfl) dX7_show_23 ?_
      refine jj_iload F dX7_show_26 rfl ?_
      refine jj_aald F (by assumption) rfl (by omega) dX7_show_28 ?_
      refine jj_geti F g41 (by assumption) (by rfl) dX7_show_29 ?_
      rw [eo]
      refine jj_iload F dX7_show_32 rfl ?_
      refine jj_iload_n F dX7_show_34 rfl ?_
      refine jj_icmp_ne F (tgt := 42) dX7_show_35 (by decide) (fun h35 => ?_) (fun h35 => ?_)
      · refine jj_iconst F (v := nI 0) dX7_show_42 (by decide) ?_
        refine jj_icmp_eq F (tgt := 53) dX7_show_43 (by decide) (fun h43 => ?_) (fun h43 => ?_)
        · refine jj_iinc F dX7_show_53 rfl (by first | exact iinc1 _ | rfl) (by rw [hnl]; decide) ?_
          dsimp only [lq_st, lq_clr, lq_no]
          refine jj_goto F (tgt := 3) dX7_show_56 (by decide) ?_
          refine jj_eqM ?_ ih
          first
          | (simp only [LSf, goB, h35, h43, if_true, if_false, decide_true, decide_false, Bool.not_true, Bool.not_false, Bool.false_eq_true]; done)
          | (simp [LSf, goB, h35, h43]; done)
        · refine jj_aload_n F dX7_show_46 rfl ?_
          refine jj_aload_n F dX7_show_47 rfl ?_
          refine jj_iload F dX7_show_48 rfl ?_
          refine jj_callVv (na := 2) F (c_X7_takeEffect hs (by omega) hC) (gl_V mk_X7_47 vw_X7_takeEffect) rfl rfl rfl (by decide +kernel) ⟨Nat.le_of_ble_eq_true rfl, Nat.le_of_ble_eq_true rfl⟩ (by assumption) rfl rfl rfl (Nat.le_of_ble_eq_true rfl) ⟨Nat.le_of_ble_eq_true rfl, Nat.le_of_ble_eq_true rfl⟩ dX7_show_50 (fun M50 hp50 => ?_)
          obtain rfl := hp50.symm
          refine jj_iinc F dX7_show_53 rfl (by first | exact iinc1 _ | rfl) (by rw [hnl]; decide) ?_
          dsimp only [lq_st, lq_clr, lq_no]
          refine jj_goto F (tgt := 3) dX7_show_56 (by decide) ?_
          refine jj_eqM ?_ ih
          first
          | (simp only [LSf, goB, h35, h43, if_true, if_false, decide_true, decide_false, Bool.not_true, Bool.not_false, Bool.false_eq_true]; done)
          | (simp [LSf, goB, h35, h43]; done)
      · refine jj_iconst F (v := nI 1) dX7_show_38 (by decide) ?_
        refine jj_goto F (tgt := 43) dX7_show_39 (by decide) ?_
        refine jj_icmp_eq F (tgt := 53) dX7_show_43 (by decide) (fun h43 => ?_) (fun h43 => ?_)
        · refine jj_iinc F dX7_show_53 rfl (by first | exact iinc1 _ | rfl) (by rw [hnl]; decide) ?_
          dsimp only [lq_st, lq_clr, lq_no]
          refine jj_goto F (tgt := 3) dX7_show_56 (by decide) ?_
          refine jj_eqM ?_ ih
          first
          | (simp only [LSf, goB, h35, h43, if_true, if_false, decide_true, decide_false, Bool.not_true, Bool.not_false, Bool.false_eq_true]; done)
          | (simp [LSf, goB, h35, h43]; done)
        · refine jj_aload_n F dX7_show_46 rfl ?_
          refine jj_aload_n F dX7_show_47 rfl ?_
          refine jj_iload F dX7_show_48 rfl ?_
          refine jj_callVv (na := 2) F (c_X7_takeEffect hs (by omega) hC) (gl_V mk_X7_47 vw_X7_takeEffect) rfl rfl rfl (by decide +kernel) ⟨Nat.le_of_ble_eq_true rfl, Nat.le_of_ble_eq_true rfl⟩ (by assumption) rfl rfl rfl (Nat.le_of_ble_eq_true rfl) ⟨Nat.le_of_ble_eq_true rfl, Nat.le_of_ble_eq_true rfl⟩ dX7_show_50 (fun M50 hp50 => ?_)
          obtain rfl := hp50.symm
          refine jj_iinc F dX7_show_53 rfl (by first | exact iinc1 _ | rfl) (by rw [hnl]; decide) ?_
          dsimp only [lq_st, lq_clr, lq_no]
          refine jj_goto F (tgt := 3) dX7_show_56 (by decide) ?_
          refine jj_eqM ?_ ih
          first
          | (simp only [LSf, goB, h35, h43, if_true, if_false, decide_true, decide_false, Bool.not_true, Bool.not_false, Bool.false_eq_true]; done)
          | (simp [LSf, goB, h35, h43]; done)
  refine jj_iconst F (v := nI 0) dX7_show_0 (by decide) ?_
  refine jj_istore F dX7_show_1 (by rw [hnl]; decide) ?_
  dsimp only [lq_st, lq_clr, lq_no]
  refine jj_eqM famL_0.symm ?_
  exact lo 0 (by omega)
