/-! Regions: cell 454 (2 queued), rest 455 (rows 456), queue 457 -/
theorem mm_ext {M N : Mm} (h1 : ∀ a, M.1 a = N.1 a) (h2 : M.2 = N.2) : M = N := Prod.ext (funext h1) h2
theorem i32_ix {x : Int32} {n : Nat} (h1 : ¬ x < 0) (h2 : ¬ nI n ≤ x) (hn : n < 2 ^ 31) : ∃ a, a < n ∧ x = nI a := by
  obtain ⟨j, hj, rfl⟩ := nI_of h1
  exact ⟨j, by
    rcases Nat.lt_or_ge j n with q | q
    · exact q
    · exact absurd (nI_le q hj) h2, rfl⟩
abbrev Rs : Type := (Nat → Bool) × (Nat → Nat) × Nat
def qA (Q : Nat → Nat) : Nat → Int32 := fun j => nI (Q j)
def cellAt (x y : Int32) : Option Nat := if x < 0 ∨ nI 16 ≤ x ∨ y < 0 ∨ nI 16 ≤ y then none else some (16 * y.toNatClampNeg + x.toNatClampNeg)
def enqO (o : Option Nat) (s : Rs) : Rs := match o with
  | none => s
  | some c => if s.2.2 < 256 ∧ s.1 c = true then (fun d => s.1 d && !(d == c), fun j => if j = s.2.2 then c else s.2.1 j, s.2.2 + 1) else s
def regM (M : Mm) (s : Rs) : Mm := wA (wA (wA M 454 (upd (M.1 454) 2 (nI s.2.2))) 456 (rowsOf s.1)) 457 (qA s.2.1)
theorem cellAt_in {a b : Nat} (ha : a < 16) (hb : b < 16) : cellAt (nI a) (nI b) = some (16 * b + a) := by
  unfold cellAt
  rw [if_neg, nI_clamp (by omega), nI_clamp (by omega)]
  rintro (h | h | h | h)
  · exact nI_pos (by omega) h
  · exact nI_ge ha (by omega) h
  · exact nI_pos (by omega) h
  · exact nI_ge hb (by omega) h
theorem upd_self (f : Nat → Int32) (k : Nat) : upd f k (f k) = f := by
  funext j
  by_cases h : j = k
  · subst h; simp [upd]
  · simp [upd, h]
theorem regM_same {M : Mm} {R : Nat → Bool} {Q : Nat → Nat} {q : Nat} (hR : M.1 456 = rowsOf R) (hQ : M.1 457 = qA Q) (hq : M.1 454 2 = nI q) : regM M (R, Q, q) = M := by
  unfold regM
  dsimp only
  rw [← hq, upd_self, wA_same, ← hR, wA_same, ← hQ, wA_same]
theorem regM_456 (M : Mm) (s : Rs) : (regM M s).1 456 = rowsOf s.1 := by unfold regM; rw [wA_n (by decide), wA_s]
theorem regM_457 (M : Mm) (s : Rs) : (regM M s).1 457 = qA s.2.1 := by unfold regM; rw [wA_s]
theorem regM_454 (M : Mm) (s : Rs) : (regM M s).1 454 2 = nI s.2.2 := by unfold regM; rw [wA_n (by decide), wA_n (by decide), wA_s]; simp [upd]
theorem regM_o {M : Mm} {s : Rs} {a : Nat} (h1 : a ≠ 454) (h2 : a ≠ 456) (h3 : a ≠ 457) : (regM M s).1 a = M.1 a := by unfold regM; rw [wA_n h3, wA_n h2, wA_n h1]
theorem regM_2 (M : Mm) (s : Rs) : (regM M s).2 = M.2 := rfl
theorem regM_M (M : Mm) (s t : Rs) : regM (regM M s) t = regM M t := by
  refine mm_ext (fun a => ?_) rfl
  by_cases h1 : a = 457
  · subst h1; rw [regM_457, regM_457]
  · by_cases h2 : a = 456
    · subst h2; rw [regM_456, regM_456]
    · by_cases h3 : a = 454
      · subst h3
        unfold regM
        rw [wA_n (by decide), wA_n (by decide), wA_s, wA_n (by decide), wA_n (by decide), wA_s, wA_n (by decide), wA_n (by decide), wA_s]
        funext j
        by_cases hj : j = 2 <;> simp [upd, hj]
      · rw [regM_o h3 h2 h1, regM_o h3 h2 h1, regM_o h3 h2 h1]
theorem regM_put {M : Mm} {R2 : Nat → Bool} {Q : Nat → Nat} {q c : Nat} (hQ : M.1 457 = qA Q) : wA (wA (wA M (455 + 1) (rowsOf R2)) 457 (upd ((wA M (455 + 1) (rowsOf R2)).1 457) q (nI c))) 454 (upd ((wA (wA M (455 + 1) (rowsOf R2)) 457 (upd ((wA M (455 + 1) (rowsOf R2)).1 457) q (nI c))).1 454) 2 (nI q + nI 1)) = regM M (R2, fun j => if j = q then c else Q j, q + 1) := by
  refine mm_ext (fun a => ?_) rfl
  rw [wA_n (M := M) (k := 455 + 1) (a := 457) (by decide), hQ]
  by_cases h1 : a = 457
  · subst h1
    rw [regM_457, wA_n (by decide), wA_s]
    funext j
    by_cases hj : j = q <;> simp [upd, qA, hj]
  · by_cases h2 : a = 456
    · subst h2
      rw [regM_456, wA_n (by decide), wA_n (by decide)]
      exact wA_s M 456 _
    · by_cases h3 : a = 454
      · subst h3
        rw [wA_s, wA_n (by decide), wA_n (by decide), nI_add]
        unfold regM
        rw [wA_n (by decide), wA_n (by decide), wA_s]
      · rw [regM_o h3 h2 h1, wA_n h3, wA_n h1, wA_n h2]
theorem enqO_full {o : Option Nat} {s : Rs} (h : ¬ s.2.2 < 256) : enqO o s = s := by
  unfold enqO
  split
  · rfl
  · rw [if_neg (fun q => h q.1)]
theorem beq_nat (a b : Nat) : (a == b) = (b == a) := by
  by_cases h : a = b
  · subst h; rfl
  · rw [beq_eq_false_iff_ne.mpr h, beq_eq_false_iff_ne.mpr (Ne.symm h)]
def nbs (d : Int32) (c : Nat) (s : Rs) : Rs :=
  let x := nI (c % 16)
  let y := nI (c / 16)
  let t := enqO (cellAt x (y + nI 1)) (enqO (cellAt (x + nI 1) y) (enqO (cellAt (x - nI 1) y) (enqO (cellAt x (y - nI 1)) s)))
  if d = 0 then t else enqO (cellAt (x + nI 1) (y + nI 1)) (enqO (cellAt (x - nI 1) (y + nI 1)) (enqO (cellAt (x + nI 1) (y - nI 1)) (enqO (cellAt (x - nI 1) (y - nI 1)) t)))
def sprL (d : Int32) : Nat → Nat → Rs → Rs
  | 0, _, s => s
  | n + 1, i, s => if i < s.2.2 then sprL d n (i + 1) (nbs d (s.2.1 i) s) else s
def sprd (d : Int32) (c : Nat) (R : Nat → Bool) (Q : Nat → Nat) : Rs := sprL d 256 0 (enqO (some c) (R, Q, 0))
def rok (s : Rs) : Prop := (∀ j, s.2.1 j < 256) ∧ s.2.2 ≤ 256
theorem cellAt_lt {x y : Int32} {c : Nat} (h : cellAt x y = some c) : c < 256 := by
  unfold cellAt at h
  split at h
  · cases h
  · rename_i q
    simp only [not_or] at q
    obtain ⟨q1, q2, q3, q4⟩ := q
    obtain ⟨a, ha, rfl⟩ := i32_ix q1 q2 (by omega)
    obtain ⟨b, hb, rfl⟩ := i32_ix q3 q4 (by omega)
    rw [nI_clamp (by omega), nI_clamp (by omega)] at h
    cases h
    omega
theorem rok_enq {o : Option Nat} {s : Rs} (h : rok s) (ho : ∀ c, o = some c → c < 256) : rok (enqO o s) := by
  unfold enqO
  split
  · exact h
  · rename_i c
    split
    · rename_i q
      refine ⟨fun j => ?_, by show s.2.2 + 1 ≤ 256; omega⟩
      show (if j = s.2.2 then c else s.2.1 j) < 256
      split
      · exact ho c rfl
      · exact h.1 j
    · exact h
theorem rok_enqA {x y : Int32} {s : Rs} (h : rok s) : rok (enqO (cellAt x y) s) := rok_enq h (fun _ e => cellAt_lt e)
theorem rok_nbs {d : Int32} {c : Nat} {s : Rs} (h : rok s) : rok (nbs d c s) := by
  unfold nbs
  dsimp only
  split
  · exact rok_enqA (rok_enqA (rok_enqA (rok_enqA h)))
  · exact rok_enqA (rok_enqA (rok_enqA (rok_enqA (rok_enqA (rok_enqA (rok_enqA (rok_enqA h)))))))
theorem rok_spr {d : Int32} : ∀ {n i : Nat} {s : Rs}, rok s → rok (sprL d n i s)
  | 0, _, _, h => h
  | n + 1, i, s, h => by
    unfold sprL
    split
    · exact rok_spr (rok_nbs h)
    · exact h
set_option maxRecDepth 100000 in
set_option maxHeartbeats 1000000 in
theorem c_X6_enqueue {l : Launch} {E : Ee} {M : Mm} {x y : Int32} {R : Nat → Bool} {Q : Nat → Nat} {q : Nat} (hR : M.1 456 = rowsOf R) (hQ : M.1 457 = qA Q) (hq : M.1 454 2 = nI q) (hok : rok (R, Q, q)) : CtV l E yX6_enqueue (.code yX6_enqueue cX6_enqueue 4 none :: gl) ({ frames := 1, cells := 0, slots := 0, locals := 21 } : Room) M [.ref (E.2.2 454), .int x, .int y] 0 0 (fun M2 => M2 = regM M (enqO (cellAt x y) (R, Q, q))) := by
  refine ctV_of (L0 := [some (.ref (E.2.2 454)), some (.int x), some (.int y), none]) (by decide) rfl (Nat.le_of_ble_eq_true rfl) rfl ?_
  intro Z hl hE hnl F ret
  subst hE
  have in_X6 : ∀ w ∈ u_ws RX6 TX6 3, w ∈ (.code yX6_enqueue cX6_enqueue 4 none :: gl) := fun w h => List.mem_cons_of_mem _ (lay_X6 w h)
  have g12 : FG Z 12 6 0 := fg_mk F (C := RX6) (T := TX6) (N := 3) in_X6 rfl (by decide) rfl (List.mem_cons_of_mem _ fk_X6_12)
  have g18 : FG Z 18 6 1 := fg_mk F (C := RX6) (T := TX6) (N := 3) in_X6 rfl (by decide) rfl (List.mem_cons_of_mem _ fk_X6_18)
  have g22 : FG Z 22 6 2 := fg_mk F (C := RX6) (T := TX6) (N := 3) in_X6 rfl (by decide) rfl (List.mem_cons_of_mem _ fk_X6_22)
  have p22 : FP Z 22 6 2 .int := fp_mk F (C := RX6) (T := TX6) (N := 3) in_X6 tyX6_ok nmX6 rfl (by decide) rfl (List.mem_cons_of_mem _ fk_X6_22) rfl (by decide +kernel)
  have kr := kd_Reg
  have kq := kd_queue
  have cs := cs_rest
  have k55 := kd_455
  have k56 := kd_456
  have hq9 : q ≤ 256 := hok.2
  refine jj_iload_n F dX6_enqueue_0 rfl ?_
  refine jj_if_lt F (tgt := 30) dX6_enqueue_1 (by decide) (fun h1 => ?_) (fun h1 => ?_)
  · refine ret _ _ _ dX6_enqueue_30 ?_
    first
    | (unfold cellAt; rw [if_pos (Or.inl h1)]; exact (regM_same hR hQ hq).symm)
    | (unfold cellAt; rw [if_pos (Or.inr (Or.inl h7))]; exact (regM_same hR hQ hq).symm)
    | (unfold cellAt; rw [if_pos (Or.inr (Or.inr (Or.inl h11)))]; exact (regM_same hR hQ hq).symm)
    | (unfold cellAt; rw [if_pos (Or.inr (Or.inr (Or.inr h17)))]; exact (regM_same hR hQ hq).symm)
    | (rw [enqO_full (fun w => h27 ((nI_ltI (by omega) (by omega)).mpr w))]; exact (regM_same hR hQ hq).symm)
  · refine jj_iload_n F dX6_enqueue_4 rfl ?_
    refine jj_bipush F (v := nI 16) dX6_enqueue_5 (by decide) ?_
    refine jj_icmp_ge F (tgt := 30) dX6_enqueue_7 (by decide) (fun h7 => ?_) (fun h7 => ?_)
    · refine ret _ _ _ dX6_enqueue_30 ?_
      first
      | (unfold cellAt; rw [if_pos (Or.inl h1)]; exact (regM_same hR hQ hq).symm)
      | (unfold cellAt; rw [if_pos (Or.inr (Or.inl h7))]; exact (regM_same hR hQ hq).symm)
      | (unfold cellAt; rw [if_pos (Or.inr (Or.inr (Or.inl h11)))]; exact (regM_same hR hQ hq).symm)
      | (unfold cellAt; rw [if_pos (Or.inr (Or.inr (Or.inr h17)))]; exact (regM_same hR hQ hq).symm)
      | (rw [enqO_full (fun w => h27 ((nI_ltI (by omega) (by omega)).mpr w))]; exact (regM_same hR hQ hq).symm)
    · refine jj_iload_n F dX6_enqueue_10 rfl ?_
      refine jj_if_lt F (tgt := 30) dX6_enqueue_11 (by decide) (fun h11 => ?_) (fun h11 => ?_)
      · refine ret _ _ _ dX6_enqueue_30 ?_
        first
        | (unfold cellAt; rw [if_pos (Or.inl h1)]; exact (regM_same hR hQ hq).symm)
        | (unfold cellAt; rw [if_pos (Or.inr (Or.inl h7))]; exact (regM_same hR hQ hq).symm)
        | (unfold cellAt; rw [if_pos (Or.inr (Or.inr (Or.inl h11)))]; exact (regM_same hR hQ hq).symm)
        | (unfold cellAt; rw [if_pos (Or.inr (Or.inr (Or.inr h17)))]; exact (regM_same hR hQ hq).symm)
        | (rw [enqO_full (fun w => h27 ((nI_ltI (by omega) (by omega)).mpr w))]; exact (regM_same hR hQ hq).symm)
      · refine jj_iload_n F dX6_enqueue_14 rfl ?_
        refine jj_bipush F (v := nI 16) dX6_enqueue_15 (by decide) ?_
        refine jj_icmp_ge F (tgt := 30) dX6_enqueue_17 (by decide) (fun h17 => ?_) (fun h17 => ?_)
        · refine ret _ _ _ dX6_enqueue_30 ?_
          first
          | (unfold cellAt; rw [if_pos (Or.inl h1)]; exact (regM_same hR hQ hq).symm)
          | (unfold cellAt; rw [if_pos (Or.inr (Or.inl h7))]; exact (regM_same hR hQ hq).symm)
          | (unfold cellAt; rw [if_pos (Or.inr (Or.inr (Or.inl h11)))]; exact (regM_same hR hQ hq).symm)
          | (unfold cellAt; rw [if_pos (Or.inr (Or.inr (Or.inr h17)))]; exact (regM_same hR hQ hq).symm)
          | (rw [enqO_full (fun w => h27 ((nI_ltI (by omega) (by omega)).mpr w))]; exact (regM_same hR hQ hq).symm)
        · refine jj_aload_n F dX6_enqueue_20 rfl ?_
          refine jj_geti F g22 (by assumption) (by rfl) dX6_enqueue_21 ?_
          rw [hq]
          refine jj_sipush F (v := nI 256) dX6_enqueue_24 (by decide) ?_
          refine jj_icmp_lt F (tgt := 31) dX6_enqueue_27 (by decide) (fun h27 => ?_) (fun h27 => ?_)
          · obtain ⟨a, ha, rfl⟩ := i32_ix h1 h7 (by omega)
            obtain ⟨b, hb, rfl⟩ := i32_ix h11 h17 (by omega)
            have hq3 : q < 256 := (nI_ltI (by omega) (by omega)).mp h27
            refine jj_bipush F (v := nI 16) dX6_enqueue_31 (by decide) ?_
            refine jj_iload_n F dX6_enqueue_33 rfl ?_
            refine jj_imul F dX6_enqueue_34 ?_
            refine jj_iload_n F dX6_enqueue_35 rfl ?_
            refine jj_iadd F dX6_enqueue_36 ?_
            rw [pk_mul, nI_add]
            refine jj_istore_n F dX6_enqueue_37 (by rw [hnl]; decide) ?_
            dsimp only [lq_st, lq_clr, lq_no]
            refine jj_aload_n F dX6_enqueue_38 rfl ?_
            refine jj_getr F g12 (by assumption) (by rfl) dX6_enqueue_39 ?_
            refine jj_iload_n F dX6_enqueue_42 rfl ?_
            refine jj_callVi (na := 1) F (c_X0_contains (by assumption) (by assumption) (by omega)) (gl_V mk_X6_30 vw_X0_contains) rfl rfl rfl (by decide +kernel) ⟨Nat.le_of_ble_eq_true rfl, Nat.le_of_ble_eq_true rfl⟩ (by assumption) rfl rfl rfl (Nat.le_of_ble_eq_true rfl) ⟨Nat.le_of_ble_eq_true rfl, Nat.le_of_ble_eq_true rfl⟩ dX6_enqueue_43 (fun r43 M43 hp43 => ?_)
            obtain ⟨rfl, rfl⟩ := symm2 hp43
            refine jj_if_eq F (tgt := 77) dX6_enqueue_46 (by decide) (fun h46 => ?_) (fun h46 => ?_)
            · refine ret _ _ _ dX6_enqueue_77 ?_
              rw [cellAt_in ha hb]
              first
              | (rw [b2i_0] at h46; simp only [enqO, h46, Bool.false_eq_true, and_false, if_false]; exact (regM_same hR hQ hq).symm)
              | (rw [b2i_n0] at h46; simp only [enqO, h46, hq3, and_self, if_true]; rw [regM_put hQ])
            · refine jj_aload_n F dX6_enqueue_49 rfl ?_
              refine jj_getr F g12 (by assumption) (by rfl) dX6_enqueue_50 ?_
              refine jj_iload_n F dX6_enqueue_53 rfl ?_
              refine jj_callVv (na := 1) F (c_X0_exclude (by assumption) (by assumption) (by omega)) (gl_V mk_X6_56 vw_X0_exclude) rfl rfl rfl (by decide +kernel) ⟨Nat.le_of_ble_eq_true rfl, Nat.le_of_ble_eq_true rfl⟩ (by assumption) rfl rfl rfl (Nat.le_of_ble_eq_true rfl) ⟨Nat.le_of_ble_eq_true rfl, Nat.le_of_ble_eq_true rfl⟩ dX6_enqueue_54 (fun M54 hp54 => ?_)
              obtain rfl := hp54.symm
              refine jj_aload_n F dX6_enqueue_57 rfl ?_
              refine jj_getr F g18 (by assumption) (by rfl) dX6_enqueue_58 ?_
              refine jj_aload_n F dX6_enqueue_61 rfl ?_
              refine jj_geti F g22 (by assumption) (by rfl) dX6_enqueue_62 ?_
              rw [wA_n (a := 454) (by decide), hq]
              refine jj_iload_n F dX6_enqueue_65 rfl ?_
              refine jj_iast F (by assumption) rfl (by omega) dX6_enqueue_66 ?_
              refine jj_aload_n F dX6_enqueue_67 rfl ?_
              refine jj_dup F dX6_enqueue_68 rfl ?_
              refine jj_geti F g22 (by assumption) (by rfl) dX6_enqueue_69 ?_
              rw [wA_n (a := 454) (by decide), wA_n (a := 454) (by decide), hq]
              refine jj_iconst F (v := nI 1) dX6_enqueue_72 (by decide) ?_
              refine jj_iadd F dX6_enqueue_73 ?_
              refine jj_puti F p22 (by assumption) (by rfl) dX6_enqueue_74 ?_
              refine ret _ _ _ dX6_enqueue_77 ?_
              rw [cellAt_in ha hb]
              first
              | (rw [b2i_0] at h46; simp only [enqO, h46, Bool.false_eq_true, and_false, if_false]; exact (regM_same hR hQ hq).symm)
              | (rw [b2i_n0] at h46; simp only [enqO, h46, hq3, and_self, if_true]; rw [regM_put hQ])
          · refine ret _ _ _ dX6_enqueue_30 ?_
            first
            | (unfold cellAt; rw [if_pos (Or.inl h1)]; exact (regM_same hR hQ hq).symm)
            | (unfold cellAt; rw [if_pos (Or.inr (Or.inl h7))]; exact (regM_same hR hQ hq).symm)
            | (unfold cellAt; rw [if_pos (Or.inr (Or.inr (Or.inl h11)))]; exact (regM_same hR hQ hq).symm)
            | (unfold cellAt; rw [if_pos (Or.inr (Or.inr (Or.inr h17)))]; exact (regM_same hR hQ hq).symm)
            | (rw [enqO_full (fun w => h27 ((nI_ltI (by omega) (by omega)).mpr w))]; exact (regM_same hR hQ hq).symm)
theorem c_enq {l : Launch} {E : Ee} {M : Mm} {s : Rs} {x y : Int32} (hok : rok s) : CtV l E yX6_enqueue (.code yX6_enqueue cX6_enqueue 4 none :: gl) ({ frames := 1, cells := 0, slots := 0, locals := 21 } : Room) (regM M s) [.ref (E.2.2 454), .int x, .int y] 0 0 (fun M2 => M2 = regM M (enqO (cellAt x y) s)) := by
  have h := c_X6_enqueue (l := l) (E := E) (M := regM M s) (x := x) (y := y) (regM_456 M s) (regM_457 M s) (regM_454 M s) hok
  simp only [regM_M] at h
  exact h
theorem less3 (a b c d e f : Option Value) : ∀ (i : Nat) (v : Value), ([a, b, c, none, none, none] : List (Option Value))[i]? = some (some v) → ([a, b, c, d, e, f] : List (Option Value))[i]? = some (some v)
  | 0, _, h => h
  | 1, _, h => h
  | 2, _, h => h
  | 3, _, h => by simp at h
  | 4, _, h => by simp at h
  | 5, _, h => by simp at h
  | n + 6, _, h => by simp at h
theorem less4 (a b c d e f : Option Value) : ∀ (i : Nat) (v : Value), ([a, b, c, d, none, none] : List (Option Value))[i]? = some (some v) → ([a, b, c, d, e, f] : List (Option Value))[i]? = some (some v)
  | 0, _, h => h
  | 1, _, h => h
  | 2, _, h => h
  | 3, _, h => h
  | 4, _, h => by simp at h
  | 5, _, h => by simp at h
  | n + 6, _, h => by simp at h
set_option maxRecDepth 100000 in
set_option maxHeartbeats 1000000 in
theorem c_X6_spread {l : Launch} {E : Ee} {M : Mm} {c : Nat} {d : Int32} (hc : c < 256) {R : Nat → Bool} {Q : Nat → Nat} {q : Nat} (hR : M.1 456 = rowsOf R) (hQ : M.1 457 = qA Q) (hq : M.1 454 2 = nI q) (hok : rok (R, Q, q)) : CtV l E yX6_spread (.code yX6_spread cX6_spread 6 none :: gl) ({ frames := 2, cells := 0, slots := 0, locals := 44 } : Room) M [.ref (E.2.2 454), .int (nI c), .int d] 0 0 (fun M2 => M2 = regM M (sprd d c R Q)) := by
  refine ctV_of (L0 := [some (.ref (E.2.2 454)), some (.int (nI c)), some (.int d), none, none, none]) (by decide) rfl (Nat.le_of_ble_eq_true rfl) rfl ?_
  intro Z hl hE hnl F ret
  subst hE
  have in_X6 : ∀ w ∈ u_ws RX6 TX6 3, w ∈ (.code yX6_spread cX6_spread 6 none :: gl) := fun w h => List.mem_cons_of_mem _ (lay_X6 w h)
  have g18 : FG Z 18 6 1 := fg_mk F (C := RX6) (T := TX6) (N := 3) in_X6 rfl (by decide) rfl (List.mem_cons_of_mem _ fk_X6_18)
  have g22 : FG Z 22 6 2 := fg_mk F (C := RX6) (T := TX6) (N := 3) in_X6 rfl (by decide) rfl (List.mem_cons_of_mem _ fk_X6_22)
  have p22 : FP Z 22 6 2 .int := fp_mk F (C := RX6) (T := TX6) (N := 3) in_X6 tyX6_ok nmX6 rfl (by decide) rfl (List.mem_cons_of_mem _ fk_X6_22) rfl (by decide +kernel)
  have kr := kd_Reg
  have kq := kd_queue
  have cs := cs_rest
  have k55 := kd_455
  have k56 := kd_456
  have lo : ∀ n i (s : Rs), n + i = 256 → rok s → (∀ t, t = sprL d n i s → JJ Z (0, 0) (regM M t) 154 [some (.ref ((zE Z).2.2 454)), some (.int (nI c)), some (.int d), none, none, none] []) → JJ Z (0, 0) (regM M s) 19 [some (.ref ((zE Z).2.2 454)), some (.int (nI c)), some (.int d), some (.int (nI i)), none, none] [] := by
    intro n
    induction n with
    | zero =>
      intro i s hi hs hk
      have hs2 := hs.2
      have h54 := regM_454 M s
      refine jj_iload_n F dX6_spread_19 rfl ?_
      refine jj_aload_n F dX6_spread_20 rfl ?_
      refine jj_geti F g22 (by assumption) (by rfl) dX6_spread_21 ?_
      rw [h54]
      refine jj_icmp_ge F (tgt := 154) dX6_spread_24 (by decide) (fun h24 => ?_) (fun h24 => ?_)
      · refine jj_less (L2 := [some (.ref ((zE Z).2.2 454)), some (.int (nI c)), some (.int d), none, none, none]) (less3 _ _ _ _ _ _) ?_
        exact hk s rfl
      · refine jj_iload_n F dX6_spread_27 rfl ?_
        refine jj_sipush F (v := nI 256) dX6_spread_28 (by decide) ?_
        refine jj_icmp_ge F (tgt := 154) dX6_spread_31 (by decide) (fun _ => ?_) (fun h9 => absurd (nI_le (by omega) (by omega)) h9)
        refine jj_less (L2 := [some (.ref ((zE Z).2.2 454)), some (.int (nI c)), some (.int d), none, none, none]) (less3 _ _ _ _ _ _) ?_
        exact hk s rfl
    | succ n ih =>
      intro i s hi hs hk
      have hs2 := hs.2
      have h54 := regM_454 M s
      have h57 := regM_457 M s
      have hQi := hs.1 i
      refine jj_iload_n F dX6_spread_19 rfl ?_
      refine jj_aload_n F dX6_spread_20 rfl ?_
      refine jj_geti F g22 (by assumption) (by rfl) dX6_spread_21 ?_
      rw [h54]
      refine jj_icmp_ge F (tgt := 154) dX6_spread_24 (by decide) (fun h24 => ?_) (fun h24 => ?_)
      · refine jj_less (L2 := [some (.ref ((zE Z).2.2 454)), some (.int (nI c)), some (.int d), none, none, none]) (less3 _ _ _ _ _ _) ?_
        refine hk s ?_
        have w : ¬ i < s.2.2 := fun w => absurd h24 (nI_ge w (by omega))
        simp [sprL, w]
      · refine jj_iload_n F dX6_spread_27 rfl ?_
        refine jj_sipush F (v := nI 256) dX6_spread_28 (by decide) ?_
        refine jj_icmp_ge F (tgt := 154) dX6_spread_31 (by decide) (fun h9 => absurd h9 (nI_ge (by omega) (by omega))) (fun _ => ?_)
        refine jj_aload_n F dX6_spread_34 rfl ?_
        refine jj_getr F g18 (by assumption) (by rfl) dX6_spread_35 ?_
        refine jj_iload_n F dX6_spread_38 rfl ?_
        refine jj_iald F (by assumption) rfl (by omega) dX6_spread_39 ?_
        rw [h57]
        unfold qA
        refine jj_callSi (na := 1) F (c_X0_columnOf (by omega)) (gl_S mk_X6_45 vw_X0_columnOf) rfl rfl rfl (by decide +kernel) ⟨Nat.le_of_ble_eq_true rfl, Nat.le_of_ble_eq_true rfl⟩ rfl rfl (Nat.le_of_ble_eq_true rfl) ⟨Nat.le_of_ble_eq_true rfl, Nat.le_of_ble_eq_true rfl⟩ dX6_spread_40 (fun r40 M40 hp40 => ?_)
        obtain ⟨rfl, rfl⟩ := symm2 hp40
        refine jj_istore F dX6_spread_43 (by rw [hnl]; decide) ?_
        dsimp only [lq_st, lq_clr, lq_no]
        refine jj_aload_n F dX6_spread_45 rfl ?_
        refine jj_getr F g18 (by assumption) (by rfl) dX6_spread_46 ?_
        refine jj_iload_n F dX6_spread_49 rfl ?_
        refine jj_iald F (by assumption) rfl (by omega) dX6_spread_50 ?_
        rw [h57]
        unfold qA
        refine jj_callSi (na := 1) F (c_X0_rowOf (by omega)) (gl_S mk_X6_49 vw_X0_rowOf) rfl rfl rfl (by decide +kernel) ⟨Nat.le_of_ble_eq_true rfl, Nat.le_of_ble_eq_true rfl⟩ rfl rfl (Nat.le_of_ble_eq_true rfl) ⟨Nat.le_of_ble_eq_true rfl, Nat.le_of_ble_eq_true rfl⟩ dX6_spread_51 (fun r51 M51 hp51 => ?_)
        obtain ⟨rfl, rfl⟩ := symm2 hp51
        refine jj_istore F dX6_spread_54 (by rw [hnl]; decide) ?_
        dsimp only [lq_st, lq_clr, lq_no]
        refine jj_aload_n F dX6_spread_56 rfl ?_
        refine jj_iload F dX6_spread_57 rfl ?_
        refine jj_iload F dX6_spread_59 rfl ?_
        refine jj_iconst F (v := nI 1) dX6_spread_61 (by decide) ?_
        refine jj_isub F dX6_spread_62 ?_
        refine jj_callVv (na := 2) F (c_enq (by first | assumption | exact rok_enqA (by assumption) | exact rok_enqA (rok_enqA (by assumption)) | exact rok_enqA (rok_enqA (rok_enqA (by assumption))) | exact rok_enqA (rok_enqA (rok_enqA (rok_enqA (by assumption)))) | exact rok_enqA (rok_enqA (rok_enqA (rok_enqA (rok_enqA (by assumption))))) | exact rok_enqA (rok_enqA (rok_enqA (rok_enqA (rok_enqA (rok_enqA (by assumption)))))) | exact rok_enqA (rok_enqA (rok_enqA (rok_enqA (rok_enqA (rok_enqA (rok_enqA (by assumption))))))))) (gl_V mk_X6_52 vw_X6_enqueue) rfl rfl rfl (by decide +kernel) ⟨Nat.le_of_ble_eq_true rfl, Nat.le_of_ble_eq_true rfl⟩ (by assumption) rfl rfl rfl (Nat.le_of_ble_eq_true rfl) ⟨Nat.le_of_ble_eq_true rfl, Nat.le_of_ble_eq_true rfl⟩ dX6_spread_63 (fun M63 hp63 => ?_)
        obtain rfl := hp63.symm
        refine jj_aload_n F dX6_spread_66 rfl ?_
        refine jj_iload F dX6_spread_67 rfl ?_
        refine jj_iconst F (v := nI 1) dX6_spread_69 (by decide) ?_
        refine jj_isub F dX6_spread_70 ?_
        refine jj_iload F dX6_spread_71 rfl ?_
        refine jj_callVv (na := 2) F (c_enq (by first | assumption | exact rok_enqA (by assumption) | exact rok_enqA (rok_enqA (by assumption)) | exact rok_enqA (rok_enqA (rok_enqA (by assumption))) | exact rok_enqA (rok_enqA (rok_enqA (rok_enqA (by assumption)))) | exact rok_enqA (rok_enqA (rok_enqA (rok_enqA (rok_enqA (by assumption))))) | exact rok_enqA (rok_enqA (rok_enqA (rok_enqA (rok_enqA (rok_enqA (by assumption)))))) | exact rok_enqA (rok_enqA (rok_enqA (rok_enqA (rok_enqA (rok_enqA (rok_enqA (by assumption))))))))) (gl_V mk_X6_52 vw_X6_enqueue) rfl rfl rfl (by decide +kernel) ⟨Nat.le_of_ble_eq_true rfl, Nat.le_of_ble_eq_true rfl⟩ (by assumption) rfl rfl rfl (Nat.le_of_ble_eq_true rfl) ⟨Nat.le_of_ble_eq_true rfl, Nat.le_of_ble_eq_true rfl⟩ dX6_spread_73 (fun M73 hp73 => ?_)
        obtain rfl := hp73.symm
        refine jj_aload_n F dX6_spread_76 rfl ?_
        refine jj_iload F dX6_spread_77 rfl ?_
        refine jj_iconst F (v := nI 1) dX6_spread_79 (by decide) ?_
        refine jj_iadd F dX6_spread_80 ?_
        refine jj_iload F dX6_spread_81 rfl ?_
        refine jj_callVv (na := 2) F (c_enq (by first | assumption | exact rok_enqA (by assumption) | exact rok_enqA (rok_enqA (by assumption)) | exact rok_enqA (rok_enqA (rok_enqA (by assumption))) | exact rok_enqA (rok_enqA (rok_enqA (rok_enqA (by assumption)))) | exact rok_enqA (rok_enqA (rok_enqA (rok_enqA (rok_enqA (by assumption))))) | exact rok_enqA (rok_enqA (rok_enqA (rok_enqA (rok_enqA (rok_enqA (by assumption)))))) | exact rok_enqA (rok_enqA (rok_enqA (rok_enqA (rok_enqA (rok_enqA (rok_enqA (by assumption))))))))) (gl_V mk_X6_52 vw_X6_enqueue) rfl rfl rfl (by decide +kernel) ⟨Nat.le_of_ble_eq_true rfl, Nat.le_of_ble_eq_true rfl⟩ (by assumption) rfl rfl rfl (Nat.le_of_ble_eq_true rfl) ⟨Nat.le_of_ble_eq_true rfl, Nat.le_of_ble_eq_true rfl⟩ dX6_spread_83 (fun M83 hp83 => ?_)
        obtain rfl := hp83.symm
        refine jj_aload_n F dX6_spread_86 rfl ?_
        refine jj_iload F dX6_spread_87 rfl ?_
        refine jj_iload F dX6_spread_89 rfl ?_
        refine jj_iconst F (v := nI 1) dX6_spread_91 (by decide) ?_
        refine jj_iadd F dX6_spread_92 ?_
        refine jj_callVv (na := 2) F (c_enq (by first | assumption | exact rok_enqA (by assumption) | exact rok_enqA (rok_enqA (by assumption)) | exact rok_enqA (rok_enqA (rok_enqA (by assumption))) | exact rok_enqA (rok_enqA (rok_enqA (rok_enqA (by assumption)))) | exact rok_enqA (rok_enqA (rok_enqA (rok_enqA (rok_enqA (by assumption))))) | exact rok_enqA (rok_enqA (rok_enqA (rok_enqA (rok_enqA (rok_enqA (by assumption)))))) | exact rok_enqA (rok_enqA (rok_enqA (rok_enqA (rok_enqA (rok_enqA (rok_enqA (by assumption))))))))) (gl_V mk_X6_52 vw_X6_enqueue) rfl rfl rfl (by decide +kernel) ⟨Nat.le_of_ble_eq_true rfl, Nat.le_of_ble_eq_true rfl⟩ (by assumption) rfl rfl rfl (Nat.le_of_ble_eq_true rfl) ⟨Nat.le_of_ble_eq_true rfl, Nat.le_of_ble_eq_true rfl⟩ dX6_spread_93 (fun M93 hp93 => ?_)
        obtain rfl := hp93.symm
        refine jj_iload_n F dX6_spread_96 rfl ?_
        refine jj_if_eq F (tgt := 148) dX6_spread_97 (by decide) (fun h97 => ?_) (fun h97 => ?_)
        · refine jj_iinc F dX6_spread_148 rfl (by first | exact iinc1 _ | rfl) (by rw [hnl]; decide) ?_
          dsimp only [lq_st, lq_clr, lq_no]
          refine jj_goto F (tgt := 19) dX6_spread_151 (by decide) ?_
          refine jj_less (L2 := [some (.ref ((zE Z).2.2 454)), some (.int (nI c)), some (.int d), some (.int (nI (i + 1))), none, none]) (less4 _ _ _ _ _ _) ?_
          have w : i < s.2.2 := by rcases Nat.lt_or_ge i s.2.2 with w | w; exact w; exact absurd (nI_le w (by omega)) h24
          first
          | (have e : nbs d (s.2.1 i) s = enqO (cellAt (nI (s.2.1 i % 16)) (nI (s.2.1 i / 16) + nI 1)) (enqO (cellAt (nI (s.2.1 i % 16) + nI 1) (nI (s.2.1 i / 16))) (enqO (cellAt (nI (s.2.1 i % 16) - nI 1) (nI (s.2.1 i / 16))) (enqO (cellAt (nI (s.2.1 i % 16)) (nI (s.2.1 i / 16) - nI 1)) s))) := by simp only [nbs, h97, if_true]
             rw [← e]
             exact ih (i + 1) _ (by omega) (rok_nbs hs) (fun t ht => hk t (by simp only [sprL, w, if_true]; exact ht)))
          | (have e : nbs d (s.2.1 i) s = enqO (cellAt (nI (s.2.1 i % 16) + nI 1) (nI (s.2.1 i / 16) + nI 1)) (enqO (cellAt (nI (s.2.1 i % 16) - nI 1) (nI (s.2.1 i / 16) + nI 1)) (enqO (cellAt (nI (s.2.1 i % 16) + nI 1) (nI (s.2.1 i / 16) - nI 1)) (enqO (cellAt (nI (s.2.1 i % 16) - nI 1) (nI (s.2.1 i / 16) - nI 1)) (enqO (cellAt (nI (s.2.1 i % 16)) (nI (s.2.1 i / 16) + nI 1)) (enqO (cellAt (nI (s.2.1 i % 16) + nI 1) (nI (s.2.1 i / 16))) (enqO (cellAt (nI (s.2.1 i % 16) - nI 1) (nI (s.2.1 i / 16))) (enqO (cellAt (nI (s.2.1 i % 16)) (nI (s.2.1 i / 16) - nI 1)) s))))))) := by simp only [nbs, h97, if_false]
             rw [← e]
             exact ih (i + 1) _ (by omega) (rok_nbs hs) (fun t ht => hk t (by simp only [sprL, w, if_true]; exact ht)))
        · refine jj_aload_n F dX6_spread_100 rfl ?_
          refine jj_iload F dX6_spread_101 rfl ?_
          refine jj_iconst F (v := nI 1) dX6_spread_103 (by decide) ?_
          refine jj_isub F dX6_spread_104 ?_
          refine jj_iload F dX6_spread_105 rfl ?_
          refine jj_iconst F (v := nI 1) dX6_spread_107 (by decide) ?_
          refine jj_isub F dX6_spread_108 ?_
          refine jj_callVv (na := 2) F (c_enq (by first | assumption | exact rok_enqA (by assumption) | exact rok_enqA (rok_enqA (by assumption)) | exact rok_enqA (rok_enqA (rok_enqA (by assumption))) | exact rok_enqA (rok_enqA (rok_enqA (rok_enqA (by assumption)))) | exact rok_enqA (rok_enqA (rok_enqA (rok_enqA (rok_enqA (by assumption))))) | exact rok_enqA (rok_enqA (rok_enqA (rok_enqA (rok_enqA (rok_enqA (by assumption)))))) | exact rok_enqA (rok_enqA (rok_enqA (rok_enqA (rok_enqA (rok_enqA (rok_enqA (by assumption))))))))) (gl_V mk_X6_52 vw_X6_enqueue) rfl rfl rfl (by decide +kernel) ⟨Nat.le_of_ble_eq_true rfl, Nat.le_of_ble_eq_true rfl⟩ (by assumption) rfl rfl rfl (Nat.le_of_ble_eq_true rfl) ⟨Nat.le_of_ble_eq_true rfl, Nat.le_of_ble_eq_true rfl⟩ dX6_spread_109 (fun M109 hp109 => ?_)
          obtain rfl := hp109.symm
          refine jj_aload_n F dX6_spread_112 rfl ?_
          refine jj_iload F dX6_spread_113 rfl ?_
          refine jj_iconst F (v := nI 1) dX6_spread_115 (by decide) ?_
          refine jj_iadd F dX6_spread_116 ?_
          refine jj_iload F dX6_spread_117 rfl ?_
          refine jj_iconst F (v := nI 1) dX6_spread_119 (by decide) ?_
          refine jj_isub F dX6_spread_120 ?_
          refine jj_callVv (na := 2) F (c_enq (by first | assumption | exact rok_enqA (by assumption) | exact rok_enqA (rok_enqA (by assumption)) | exact rok_enqA (rok_enqA (rok_enqA (by assumption))) | exact rok_enqA (rok_enqA (rok_enqA (rok_enqA (by assumption)))) | exact rok_enqA (rok_enqA (rok_enqA (rok_enqA (rok_enqA (by assumption))))) | exact rok_enqA (rok_enqA (rok_enqA (rok_enqA (rok_enqA (rok_enqA (by assumption)))))) | exact rok_enqA (rok_enqA (rok_enqA (rok_enqA (rok_enqA (rok_enqA (rok_enqA (by assumption))))))))) (gl_V mk_X6_52 vw_X6_enqueue) rfl rfl rfl (by decide +kernel) ⟨Nat.le_of_ble_eq_true rfl, Nat.le_of_ble_eq_true rfl⟩ (by assumption) rfl rfl rfl (Nat.le_of_ble_eq_true rfl) ⟨Nat.le_of_ble_eq_true rfl, Nat.le_of_ble_eq_true rfl⟩ dX6_spread_121 (fun M121 hp121 => ?_)
          obtain rfl := hp121.symm
          refine jj_aload_n F dX6_spread_124 rfl ?_
          refine jj_iload F dX6_spread_125 rfl ?_
          refine jj_iconst F (v := nI 1) dX6_spread_127 (by decide) ?_
          refine jj_isub F dX6_spread_128 ?_
          refine jj_iload F dX6_spread_129 rfl ?_
          refine jj_iconst F (v := nI 1) dX6_spread_131 (by decide) ?_
          refine jj_iadd F dX6_spread_132 ?_
          refine jj_callVv (na := 2) F (c_enq (by first | assumption | exact rok_enqA (by assumption) | exact rok_enqA (rok_enqA (by assumption)) | exact rok_enqA (rok_enqA (rok_enqA (by assumption))) | exact rok_enqA (rok_enqA (rok_enqA (rok_enqA (by assumption)))) | exact rok_enqA (rok_enqA (rok_enqA (rok_enqA (rok_enqA (by assumption))))) | exact rok_enqA (rok_enqA (rok_enqA (rok_enqA (rok_enqA (rok_enqA (by assumption)))))) | exact rok_enqA (rok_enqA (rok_enqA (rok_enqA (rok_enqA (rok_enqA (rok_enqA (by assumption))))))))) (gl_V mk_X6_52 vw_X6_enqueue) rfl rfl rfl (by decide +kernel) ⟨Nat.le_of_ble_eq_true rfl, Nat.le_of_ble_eq_true rfl⟩ (by assumption) rfl rfl rfl (Nat.le_of_ble_eq_true rfl) ⟨Nat.le_of_ble_eq_true rfl, Nat.le_of_ble_eq_true rfl⟩ dX6_spread_133 (fun M133 hp133 => ?_)
          obtain rfl := hp133.symm
          refine jj_aload_n F dX6_spread_136 rfl ?_
          refine jj_iload F dX6_spread_137 rfl ?_
          refine jj_iconst F (v := nI 1) dX6_spread_139 (by decide) ?_
          refine jj_iadd F dX6_spread_140 ?_
          refine jj_iload F dX6_spread_141 rfl ?_
          refine jj_iconst F (v := nI 1) dX6_spread_143 (by decide) ?_
          refine jj_iadd F dX6_spread_144 ?_
          refine jj_callVv (na := 2) F (c_enq (by first | assumption | exact rok_enqA (by assumption) | exact rok_enqA (rok_enqA (by assumption)) | exact rok_enqA (rok_enqA (rok_enqA (by assumption))) | exact rok_enqA (rok_enqA (rok_enqA (rok_enqA (by assumption)))) | exact rok_enqA (rok_enqA (rok_enqA (rok_enqA (rok_enqA (by assumption))))) | exact rok_enqA (rok_enqA (rok_enqA (rok_enqA (rok_enqA (rok_enqA (by assumption)))))) | exact rok_enqA (rok_enqA (rok_enqA (rok_enqA (rok_enqA (rok_enqA (rok_enqA (by assumption))))))))) (gl_V mk_X6_52 vw_X6_enqueue) rfl rfl rfl (by decide +kernel) ⟨Nat.le_of_ble_eq_true rfl, Nat.le_of_ble_eq_true rfl⟩ (by assumption) rfl rfl rfl (Nat.le_of_ble_eq_true rfl) ⟨Nat.le_of_ble_eq_true rfl, Nat.le_of_ble_eq_true rfl⟩ dX6_spread_145 (fun M145 hp145 => ?_)
          obtain rfl := hp145.symm
          refine jj_iinc F dX6_spread_148 rfl (by first | exact iinc1 _ | rfl) (by rw [hnl]; decide) ?_
          dsimp only [lq_st, lq_clr, lq_no]
          refine jj_goto F (tgt := 19) dX6_spread_151 (by decide) ?_
          refine jj_less (L2 := [some (.ref ((zE Z).2.2 454)), some (.int (nI c)), some (.int d), some (.int (nI (i + 1))), none, none]) (less4 _ _ _ _ _ _) ?_
          have w : i < s.2.2 := by rcases Nat.lt_or_ge i s.2.2 with w | w; exact w; exact absurd (nI_le w (by omega)) h24
          first
          | (have e : nbs d (s.2.1 i) s = enqO (cellAt (nI (s.2.1 i % 16)) (nI (s.2.1 i / 16) + nI 1)) (enqO (cellAt (nI (s.2.1 i % 16) + nI 1) (nI (s.2.1 i / 16))) (enqO (cellAt (nI (s.2.1 i % 16) - nI 1) (nI (s.2.1 i / 16))) (enqO (cellAt (nI (s.2.1 i % 16)) (nI (s.2.1 i / 16) - nI 1)) s))) := by simp only [nbs, h97, if_true]
             rw [← e]
             exact ih (i + 1) _ (by omega) (rok_nbs hs) (fun t ht => hk t (by simp only [sprL, w, if_true]; exact ht)))
          | (have e : nbs d (s.2.1 i) s = enqO (cellAt (nI (s.2.1 i % 16) + nI 1) (nI (s.2.1 i / 16) + nI 1)) (enqO (cellAt (nI (s.2.1 i % 16) - nI 1) (nI (s.2.1 i / 16) + nI 1)) (enqO (cellAt (nI (s.2.1 i % 16) + nI 1) (nI (s.2.1 i / 16) - nI 1)) (enqO (cellAt (nI (s.2.1 i % 16) - nI 1) (nI (s.2.1 i / 16) - nI 1)) (enqO (cellAt (nI (s.2.1 i % 16)) (nI (s.2.1 i / 16) + nI 1)) (enqO (cellAt (nI (s.2.1 i % 16) + nI 1) (nI (s.2.1 i / 16))) (enqO (cellAt (nI (s.2.1 i % 16) - nI 1) (nI (s.2.1 i / 16))) (enqO (cellAt (nI (s.2.1 i % 16)) (nI (s.2.1 i / 16) - nI 1)) s))))))) := by simp only [nbs, h97, if_false]
             rw [← e]
             exact ih (i + 1) _ (by omega) (rok_nbs hs) (fun t ht => hk t (by simp only [sprL, w, if_true]; exact ht)))
  refine jj_aload_n F dX6_spread_0 rfl ?_
  refine jj_iconst F (v := nI 0) dX6_spread_1 (by decide) ?_
  refine jj_puti F p22 (by assumption) (by rfl) dX6_spread_2 ?_
  have e0 : wA M 454 (upd (M.1 454) 2 (nI 0)) = regM M (R, Q, 0) := by unfold regM; dsimp only; rw [← hR, ← hQ]; refine mm_ext (fun a => ?_) rfl; by_cases w1 : a = 457; subst w1; rw [wA_s, wA_n (by decide)]; rw [wA_n w1]; by_cases w2 : a = 456; subst w2; rw [wA_s, wA_n (by decide)]; rw [wA_n w2]
  rw [e0]
  have hk0 : rok (R, Q, 0) := ⟨hok.1, by show 0 ≤ 256; omega⟩
  refine jj_aload_n F dX6_spread_5 rfl ?_
  refine jj_iload_n F dX6_spread_6 rfl ?_
  refine jj_callSi (na := 1) F (c_X0_columnOf (by omega)) (gl_S mk_X6_45 vw_X0_columnOf) rfl rfl rfl (by decide +kernel) ⟨Nat.le_of_ble_eq_true rfl, Nat.le_of_ble_eq_true rfl⟩ rfl rfl (Nat.le_of_ble_eq_true rfl) ⟨Nat.le_of_ble_eq_true rfl, Nat.le_of_ble_eq_true rfl⟩ dX6_spread_7 (fun r7 M7 hp7 => ?_)
  obtain ⟨rfl, rfl⟩ := symm2 hp7
  refine jj_iload_n F dX6_spread_10 rfl ?_
  refine jj_callSi (na := 1) F (c_X0_rowOf (by omega)) (gl_S mk_X6_49 vw_X0_rowOf) rfl rfl rfl (by decide +kernel) ⟨Nat.le_of_ble_eq_true rfl, Nat.le_of_ble_eq_true rfl⟩ rfl rfl (Nat.le_of_ble_eq_true rfl) ⟨Nat.le_of_ble_eq_true rfl, Nat.le_of_ble_eq_true rfl⟩ dX6_spread_11 (fun r11 M11 hp11 => ?_)
  obtain ⟨rfl, rfl⟩ := symm2 hp11
  refine jj_callVv (na := 2) F (c_enq (by first | assumption | exact rok_enqA (by assumption) | exact rok_enqA (rok_enqA (by assumption)) | exact rok_enqA (rok_enqA (rok_enqA (by assumption))) | exact rok_enqA (rok_enqA (rok_enqA (rok_enqA (by assumption)))) | exact rok_enqA (rok_enqA (rok_enqA (rok_enqA (rok_enqA (by assumption))))) | exact rok_enqA (rok_enqA (rok_enqA (rok_enqA (rok_enqA (rok_enqA (by assumption)))))) | exact rok_enqA (rok_enqA (rok_enqA (rok_enqA (rok_enqA (rok_enqA (rok_enqA (by assumption))))))))) (gl_V mk_X6_52 vw_X6_enqueue) rfl rfl rfl (by decide +kernel) ⟨Nat.le_of_ble_eq_true rfl, Nat.le_of_ble_eq_true rfl⟩ (by assumption) rfl rfl rfl (Nat.le_of_ble_eq_true rfl) ⟨Nat.le_of_ble_eq_true rfl, Nat.le_of_ble_eq_true rfl⟩ dX6_spread_14 (fun M14 hp14 => ?_)
  obtain rfl := hp14.symm
  refine jj_iconst F (v := nI 0) dX6_spread_17 (by decide) ?_
  refine jj_istore_n F dX6_spread_18 (by rw [hnl]; decide) ?_
  dsimp only [lq_st, lq_clr, lq_no]
  have hk0 : rok (R, Q, 0) := ⟨hok.1, by show 0 ≤ 256; omega⟩
  rw [cellAt_in (by omega) (by omega), show 16 * (c / 16) + c % 16 = c by omega]
  exact lo 256 0 _ (by omega) (rok_enq hk0 (fun _ e => by cases e; exact hc)) (fun t ht => by subst ht; exact ret _ _ _ dX6_spread_154 rfl)
/-- the parts of a set: the cells in order, each that is still there spreads -/
def ptA (d : Int32) (s0 : Rs) : Nat → Rs × Nat
  | 0 => (s0, 0)
  | i + 1 => if (ptA d s0 i).1.1 i = true then (sprd d i (ptA d s0 i).1.1 (ptA d s0 i).1.2.1, (ptA d s0 i).2 + 1) else ptA d s0 i
theorem rok_sprd {d : Int32} {c : Nat} {R : Nat → Bool} {Q : Nat → Nat} {q : Nat} (hc : c < 256) (h : rok (R, Q, q)) : rok (sprd d c R Q) := by
  unfold sprd
  refine rok_spr (rok_enq ⟨h.1, ?_⟩ (fun _ e => by cases e; exact hc))
  show 0 ≤ 256
  omega
theorem rok_ptA {d : Int32} {s0 : Rs} (h : rok s0) : ∀ i, i ≤ 256 → rok (ptA d s0 i).1
  | 0, _ => h
  | i + 1, hi => by
    have ih := rok_ptA h (d := d) i (by omega)
    unfold ptA
    split
    · exact rok_sprd (by omega) ih
    · exact ih
theorem ptA_le {d : Int32} {s0 : Rs} : ∀ i, (ptA d s0 i).2 ≤ i
  | 0 => Nat.le_refl 0
  | i + 1 => by
    have ih := ptA_le (d := d) (s0 := s0) i
    unfold ptA
    split
    · show (ptA d s0 i).2 + 1 ≤ i + 1
      omega
    · omega
theorem c_spr {l : Launch} {E : Ee} {M : Mm} {s : Rs} {c : Nat} {d : Int32} (hc : c < 256) (hok : rok s) : CtV l E yX6_spread (.code yX6_spread cX6_spread 6 none :: gl) ({ frames := 2, cells := 0, slots := 0, locals := 44 } : Room) (regM M s) [.ref (E.2.2 454), .int (nI c), .int d] 0 0 (fun M2 => M2 = regM M (sprd d c s.1 s.2.1)) := by
  have h := c_X6_spread (l := l) (E := E) (M := regM M s) (c := c) (d := d) hc (regM_456 M s) (regM_457 M s) (regM_454 M s) hok
  simp only [regM_M] at h
  exact h
set_option maxRecDepth 100000 in
set_option maxHeartbeats 1000000 in
theorem c_X6_parts {l : Launch} {E : Ee} {M : Mm} {d : Int32} {k : Nat} {S : Nat → Bool} {Q : Nat → Nat} {q : Nat} (hk : isCS k) (hne : k ≠ 455) (hS : M.1 (k + 1) = rowsOf S) (hQ : M.1 457 = qA Q) (hq : M.1 454 2 = nI q) (hok : rok (S, Q, q)) : CtI l E yX6_parts (.code yX6_parts cX6_parts 5 (some .int) :: gl) ({ frames := 3, cells := 0, slots := 0, locals := 69 } : Room) M [.ref (E.2.2 454), .ref (E.2.2 k), .int d] 0 0 (fun r M2 => r = nI (ptA d (S, Q, q) 256).2 ∧ M2 = regM M (ptA d (S, Q, q) 256).1) := by
  refine ctI_of (L0 := [some (.ref (E.2.2 454)), some (.ref (E.2.2 k)), some (.int d), none, none]) (by decide) rfl (Nat.le_of_ble_eq_true rfl) rfl ?_
  intro Z hl hE hnl F ret
  subst hE
  have in_X6 : ∀ w ∈ u_ws RX6 TX6 3, w ∈ (.code yX6_parts cX6_parts 5 (some .int) :: gl) := fun w h => List.mem_cons_of_mem _ (lay_X6 w h)
  have g12 : FG Z 12 6 0 := fg_mk F (C := RX6) (T := TX6) (N := 3) in_X6 rfl (by decide) rfl (List.mem_cons_of_mem _ fk_X6_12)
  have kr := kd_Reg
  have kq := kd_queue
  have cs := cs_rest
  have k55 := kd_455
  have k56 := kd_456
  obtain ⟨h0, h1⟩ := id hk
  have lo : ∀ i, i ≤ 256 → JJ Z (0, 0) (regM M (ptA d (S, Q, q) i).1) 13 [some (.ref ((zE Z).2.2 454)), some (.ref ((zE Z).2.2 k)), some (.int d), some (.int (nI (ptA d (S, Q, q) i).2)), some (.int (nI i))] [] := by
    refine jj_loop (256) ?_ ?_
    · refine jj_iload F dX6_parts_13 rfl ?_
      refine jj_sipush F (v := nI 256) dX6_parts_15 (by decide) ?_
      refine jj_icmp_ge F (tgt := 49) dX6_parts_18 (by decide) (fun _ => ?_) (fun h9 => absurd (nI_le (by omega) (by omega)) h9)
      refine jj_iload_n F dX6_parts_49 rfl ?_
      exact ret _ _ _ _ dX6_parts_50 rfl ⟨rfl, rfl⟩
    · intro i hi ih
      have hs := rok_ptA (d := d) hok i (by omega)
      have h56 := regM_456 M (ptA d (S, Q, q) i).1
      refine jj_iload F dX6_parts_13 rfl ?_
      refine jj_sipush F (v := nI 256) dX6_parts_15 (by decide) ?_
      refine jj_icmp_ge F (tgt := 49) dX6_parts_18 (by decide) (fun h9 => absurd h9 (nI_ge (by omega) (by omega))) (fun _ => ?_)
      refine jj_aload_n F dX6_parts_21 rfl ?_
      refine jj_getr F g12 (by assumption) (by rfl) dX6_parts_22 ?_
      refine jj_iload F dX6_parts_25 rfl ?_
      refine jj_callVi (na := 1) F (c_X0_contains (by assumption) (by assumption) (by omega)) (gl_V mk_X6_30 vw_X0_contains) rfl rfl rfl (by decide +kernel) ⟨Nat.le_of_ble_eq_true rfl, Nat.le_of_ble_eq_true rfl⟩ (by assumption) rfl rfl rfl (Nat.le_of_ble_eq_true rfl) ⟨Nat.le_of_ble_eq_true rfl, Nat.le_of_ble_eq_true rfl⟩ dX6_parts_27 (fun r27 M27 hp27 => ?_)
      obtain ⟨rfl, rfl⟩ := symm2 hp27
      refine jj_if_eq F (tgt := 43) dX6_parts_30 (by decide) (fun h30 => ?_) (fun h30 => ?_)
      · refine jj_iinc F dX6_parts_43 rfl (by first | exact iinc1 _ | rfl) (by rw [hnl]; decide) ?_
        dsimp only [lq_st, lq_clr, lq_no]
        refine jj_goto F (tgt := 13) dX6_parts_46 (by decide) ?_
        refine jj_eqM ?_ (jj_eqL ?_ ih)
        · first
          | (rw [b2i_0] at h30; simp [ptA, h30]; done)
          | (rw [b2i_n0] at h30; simp [ptA, h30]; done)
        · first
          | (rw [b2i_0] at h30; simp [ptA, h30]; done)
          | (rw [b2i_n0] at h30; simp [ptA, h30]; done)
      · refine jj_aload_n F dX6_parts_33 rfl ?_
        refine jj_iload F dX6_parts_34 rfl ?_
        refine jj_iload_n F dX6_parts_36 rfl ?_
        refine jj_callVv (na := 2) F (c_spr (by omega) (by assumption)) (gl_V mk_X6_34 vw_X6_spread) rfl rfl rfl (by decide +kernel) ⟨Nat.le_of_ble_eq_true rfl, Nat.le_of_ble_eq_true rfl⟩ (by assumption) rfl rfl rfl (Nat.le_of_ble_eq_true rfl) ⟨Nat.le_of_ble_eq_true rfl, Nat.le_of_ble_eq_true rfl⟩ dX6_parts_37 (fun M37 hp37 => ?_)
        obtain rfl := hp37.symm
        refine jj_iinc F dX6_parts_40 rfl (by first | exact iinc1 _ | rfl) (by rw [hnl]; decide) ?_
        dsimp only [lq_st, lq_clr, lq_no]
        refine jj_iinc F dX6_parts_43 rfl (by first | exact iinc1 _ | rfl) (by rw [hnl]; decide) ?_
        dsimp only [lq_st, lq_clr, lq_no]
        refine jj_goto F (tgt := 13) dX6_parts_46 (by decide) ?_
        refine jj_eqM ?_ (jj_eqL ?_ ih)
        · first
          | (rw [b2i_0] at h30; simp [ptA, h30]; done)
          | (rw [b2i_n0] at h30; simp [ptA, h30]; done)
        · first
          | (rw [b2i_0] at h30; simp [ptA, h30]; done)
          | (rw [b2i_n0] at h30; simp [ptA, h30]; done)
  refine jj_aload_n F dX6_parts_0 rfl ?_
  refine jj_getr F g12 (by assumption) (by rfl) dX6_parts_1 ?_
  refine jj_aload_n F dX6_parts_4 rfl ?_
  refine jj_callVv (na := 1) F (c_X0_becomeCopy (by assumption) (by assumption) (by omega)) (gl_V mk_X6_26 vw_X0_becomeCopy) rfl rfl rfl (by decide +kernel) ⟨Nat.le_of_ble_eq_true rfl, Nat.le_of_ble_eq_true rfl⟩ (by assumption) rfl rfl rfl (Nat.le_of_ble_eq_true rfl) ⟨Nat.le_of_ble_eq_true rfl, Nat.le_of_ble_eq_true rfl⟩ dX6_parts_5 (fun M5 hp5 => ?_)
  obtain rfl := hp5.symm
  have e0 : wA M (455 + 1) (M.1 (k + 1)) = regM M (S, Q, q) := by unfold regM; dsimp only; rw [hS, ← hQ, ← hq, upd_self, wA_same]; refine mm_ext (fun a => ?_) rfl; by_cases w1 : a = 457; subst w1; rw [wA_s, wA_n (by decide)]; rw [wA_n w1]
  rw [e0]
  refine jj_iconst F (v := nI 0) dX6_parts_8 (by decide) ?_
  refine jj_istore_n F dX6_parts_9 (by rw [hnl]; decide) ?_
  dsimp only [lq_st, lq_clr, lq_no]
  refine jj_iconst F (v := nI 0) dX6_parts_10 (by decide) ?_
  refine jj_istore F dX6_parts_11 (by rw [hnl]; decide) ?_
  dsimp only [lq_st, lq_clr, lq_no]
  exact lo 0 (by omega)
set_option maxRecDepth 100000 in
set_option maxHeartbeats 1000000 in
theorem c_X6_reach {l : Launch} {E : Ee} {M : Mm} {c r : Nat} (hc : c < 256) (hr : isCS r) (hrn : r ≠ 455) {k : Nat} {S : Nat → Bool} {Q : Nat → Nat} {q : Nat} (hk : isCS k) (hne : k ≠ 455) (hS : M.1 (k + 1) = rowsOf S) (hQ : M.1 457 = qA Q) (hq : M.1 454 2 = nI q) (hok : rok (S, Q, q)) : CtV l E yX6_reach (.code yX6_reach cX6_reach 5 none :: gl) ({ frames := 3, cells := 0, slots := 0, locals := 69 } : Room) M [.ref (E.2.2 454), .int (nI c), .ref (E.2.2 k), .ref (E.2.2 r)] 0 0 (fun M2 => M2 = wA (regM M (sprd (nI 0) c S Q)) (r + 1) (rowsOf (fun d => exB (sprd (nI 0) c S Q).2.2 (fun j => (sprd (nI 0) c S Q).2.1 j == d)))) := by
  refine ctV_of (L0 := [some (.ref (E.2.2 454)), some (.int (nI c)), some (.ref (E.2.2 k)), some (.ref (E.2.2 r)), none]) (by decide) rfl (Nat.le_of_ble_eq_true rfl) rfl ?_
  intro Z hl hE hnl F ret
  subst hE
  have in_X6 : ∀ w ∈ u_ws RX6 TX6 3, w ∈ (.code yX6_reach cX6_reach 5 none :: gl) := fun w h => List.mem_cons_of_mem _ (lay_X6 w h)
  have g12 : FG Z 12 6 0 := fg_mk F (C := RX6) (T := TX6) (N := 3) in_X6 rfl (by decide) rfl (List.mem_cons_of_mem _ fk_X6_12)
  have g18 : FG Z 18 6 1 := fg_mk F (C := RX6) (T := TX6) (N := 3) in_X6 rfl (by decide) rfl (List.mem_cons_of_mem _ fk_X6_18)
  have g22 : FG Z 22 6 2 := fg_mk F (C := RX6) (T := TX6) (N := 3) in_X6 rfl (by decide) rfl (List.mem_cons_of_mem _ fk_X6_22)
  have kr := kd_Reg
  have kq := kd_queue
  have cs := cs_rest
  have k55 := kd_455
  have k56 := kd_456
  obtain ⟨h0, h1⟩ := id hk
  obtain ⟨r0, r1⟩ := id hr
  have hso := rok_sprd (d := nI 0) hc hok
  have w1 : r + 1 ≠ 457 := by intro e; rw [e, kq] at r1; cases r1
  have w2 : r + 1 ≠ 454 := by intro e; rw [e, kr] at r1; cases r1
  have w3 : r + 1 ≠ 456 := by omega
  have lo : ∀ i, i ≤ (sprd (nI 0) c S Q).2.2 → JJ Z (0, 0) (wA (regM M (sprd (nI 0) c S Q)) (r + 1) (rowsOf (fun d => exB i (fun j => (sprd (nI 0) c S Q).2.1 j == d)))) 21 [some (.ref ((zE Z).2.2 454)), some (.int (nI c)), some (.ref ((zE Z).2.2 k)), some (.ref ((zE Z).2.2 r)), some (.int (nI i))] [] := by
    refine jj_loop ((sprd (nI 0) c S Q).2.2) ?_ ?_
    · have hq1 := hso.2
      have e4 : (wA (regM M (sprd (nI 0) c S Q)) (r + 1) (rowsOf (fun d => exB (sprd (nI 0) c S Q).2.2 (fun j => (sprd (nI 0) c S Q).2.1 j == d)))).1 454 2 = nI (sprd (nI 0) c S Q).2.2 := by rw [wA_n (by omega), regM_454]
      refine jj_iload F dX6_reach_21 rfl ?_
      refine jj_aload_n F dX6_reach_23 rfl ?_
      refine jj_geti F g22 (by assumption) (by rfl) dX6_reach_24 ?_
      rw [e4]
      refine jj_icmp_ge F (tgt := 47) dX6_reach_27 (by decide) (fun _ => ?_) (fun h9 => absurd (nI_le (by omega) (by omega)) h9)
      exact ret _ _ _ dX6_reach_47 rfl
    · intro i hi ih
      have hq1 := hso.2
      have hQ1 := hso.1 i
      have e4 : (wA (regM M (sprd (nI 0) c S Q)) (r + 1) (rowsOf (fun d => exB i (fun j => (sprd (nI 0) c S Q).2.1 j == d)))).1 454 2 = nI (sprd (nI 0) c S Q).2.2 := by rw [wA_n (by omega), regM_454]
      have e7 : (wA (regM M (sprd (nI 0) c S Q)) (r + 1) (rowsOf (fun d => exB i (fun j => (sprd (nI 0) c S Q).2.1 j == d)))).1 457 i = nI ((sprd (nI 0) c S Q).2.1 i) := by rw [wA_n (by omega), regM_457]; rfl
      have e6 : (wA (regM M (sprd (nI 0) c S Q)) (r + 1) (rowsOf (fun d => exB i (fun j => (sprd (nI 0) c S Q).2.1 j == d)))).1 (r + 1) = rowsOf (fun d => exB i (fun j => (sprd (nI 0) c S Q).2.1 j == d)) := wA_s _ _ _
      refine jj_iload F dX6_reach_21 rfl ?_
      refine jj_aload_n F dX6_reach_23 rfl ?_
      refine jj_geti F g22 (by assumption) (by rfl) dX6_reach_24 ?_
      rw [e4]
      refine jj_icmp_ge F (tgt := 47) dX6_reach_27 (by decide) (fun h9 => absurd h9 (nI_ge (by omega) (by omega))) (fun _ => ?_)
      refine jj_aload_n F dX6_reach_30 rfl ?_
      refine jj_aload_n F dX6_reach_31 rfl ?_
      refine jj_getr F g18 (by assumption) (by rfl) dX6_reach_32 ?_
      refine jj_iload F dX6_reach_35 rfl ?_
      refine jj_iald F (by assumption) rfl (by omega) dX6_reach_37 ?_
      rw [e7]
      refine jj_callVv (na := 1) F (c_X0_include (by assumption) (by assumption) (by omega)) (gl_V mk_X6_41 vw_X0_include) rfl rfl rfl (by decide +kernel) ⟨Nat.le_of_ble_eq_true rfl, Nat.le_of_ble_eq_true rfl⟩ (by assumption) rfl rfl rfl (Nat.le_of_ble_eq_true rfl) ⟨Nat.le_of_ble_eq_true rfl, Nat.le_of_ble_eq_true rfl⟩ dX6_reach_38 (fun M38 hp38 => ?_)
      obtain rfl := hp38.symm
      rw [wA_wA]
      refine jj_iinc F dX6_reach_41 rfl (by first | exact iinc1 _ | rfl) (by rw [hnl]; decide) ?_
      dsimp only [lq_st, lq_clr, lq_no]
      refine jj_goto F (tgt := 21) dX6_reach_44 (by decide) ?_
      refine jj_eqM ?_ ih
      congr 1
      congr 1
      funext d
      simp only [exB]
      congr 1
      exact beq_nat _ _
  refine jj_aload_n F dX6_reach_0 rfl ?_
  refine jj_getr F g12 (by assumption) (by rfl) dX6_reach_1 ?_
  refine jj_aload_n F dX6_reach_4 rfl ?_
  refine jj_callVv (na := 1) F (c_X0_becomeCopy (by assumption) (by assumption) (by omega)) (gl_V mk_X6_26 vw_X0_becomeCopy) rfl rfl rfl (by decide +kernel) ⟨Nat.le_of_ble_eq_true rfl, Nat.le_of_ble_eq_true rfl⟩ (by assumption) rfl rfl rfl (Nat.le_of_ble_eq_true rfl) ⟨Nat.le_of_ble_eq_true rfl, Nat.le_of_ble_eq_true rfl⟩ dX6_reach_5 (fun M5 hp5 => ?_)
  obtain rfl := hp5.symm
  have e0 : wA M (455 + 1) (M.1 (k + 1)) = regM M (S, Q, q) := by unfold regM; dsimp only; rw [hS, ← hQ, ← hq, upd_self, wA_same]; refine mm_ext (fun a => ?_) rfl; by_cases w1 : a = 457; subst w1; rw [wA_s, wA_n (by decide)]; rw [wA_n w1]
  rw [e0]
  refine jj_aload_n F dX6_reach_8 rfl ?_
  refine jj_iload_n F dX6_reach_9 rfl ?_
  refine jj_iconst F (v := nI 0) dX6_reach_10 (by decide) ?_
  refine jj_callVv (na := 2) F (c_spr (by omega) (by assumption)) (gl_V mk_X6_34 vw_X6_spread) rfl rfl rfl (by decide +kernel) ⟨Nat.le_of_ble_eq_true rfl, Nat.le_of_ble_eq_true rfl⟩ (by assumption) rfl rfl rfl (Nat.le_of_ble_eq_true rfl) ⟨Nat.le_of_ble_eq_true rfl, Nat.le_of_ble_eq_true rfl⟩ dX6_reach_11 (fun M11 hp11 => ?_)
  obtain rfl := hp11.symm
  refine jj_aload_n F dX6_reach_14 rfl ?_
  refine jj_callVv (na := 0) F (c_X0_becomeEmpty (by assumption)) (gl_V mk_X6_38 vw_X0_becomeEmpty) rfl rfl rfl (by decide +kernel) ⟨Nat.le_of_ble_eq_true rfl, Nat.le_of_ble_eq_true rfl⟩ (by assumption) rfl rfl rfl (Nat.le_of_ble_eq_true rfl) ⟨Nat.le_of_ble_eq_true rfl, Nat.le_of_ble_eq_true rfl⟩ dX6_reach_15 (fun M15 hp15 => ?_)
  obtain rfl := hp15.symm
  refine jj_iconst F (v := nI 0) dX6_reach_18 (by decide) ?_
  refine jj_istore F dX6_reach_19 (by rw [hnl]; decide) ?_
  dsimp only [lq_st, lq_clr, lq_no]
  exact lo 0 (by omega)
