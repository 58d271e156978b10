/-! memories that the machine can't tell apart -/
def meq (M M2 : Mm) : Prop := ∀ k, k < 505 → (match kd k with
  | .inl (_, fl) => ∀ j, (fl[j]? = some 0 → M.1 k j = M2.1 k j) ∧ (fl[j]? = some 1 → M.2 k j = M2.2 k j)
  | .inr (0, n, _, _) => ∀ j, j < n → M.1 k j = M2.1 k j
  | .inr (1, n, _, _) => ∀ j, j < n → M.1 k j = M2.1 k j
  | .inr (2, n, _, _) => ∀ j, j < n → M.2 k j = M2.2 k j
  | .inr (_ + 3, _, _, _) => True)
theorem lf_meq (E : Ee) {M M2 : Mm} {k : Nat} : ∀ (fl : List Nat) (i : Nat), (∀ j, (fl[j]? = some 0 → M.1 k (i + j) = M2.1 k (i + j)) ∧ (fl[j]? = some 1 → M.2 k (i + j) = M2.2 k (i + j))) → lf E M k i fl = lf E M2 k i fl
  | [], _, _ => rfl
  | a :: t, i, h => by
    have ih := lf_meq E t (i + 1) (fun j => by
      have := h (j + 1)
      rw [show i + (j + 1) = i + 1 + j by omega] at this
      simpa using this)
    have h0 := h 0
    match a with
    | 0 => simp only [lf]; rw [ih, show M.1 k i = M2.1 k i from h0.1 rfl]
    | 1 => simp only [lf]; rw [ih, show M.2 k i = M2.2 k i from h0.2 rfl]
    | r + 2 => simp only [lf]; rw [ih]
theorem arrV_cong {cA : ClassId} {n : Nat} {f g : Nat → Value} (h : ∀ j, j < n → f j = g j) : arrV cA n f = arrV cA n g := by
  unfold arrV
  congr 1
  apply Array.ext_getElem?
  intro i
  by_cases hi : i < n
  · simp [hi, h i hi]
  · simp [hi]
theorem meq_at (E : Ee) {M M2 : Mm} (h : meq M M2) {k : Nat} (hk : k < 505) {H : Heap} (a : va_at E.1 vwCl (E.2.2 k, lc E M k) H) : va_at E.1 vwCl (E.2.2 k, lc E M2 k) H := by
  have h1 := h k hk
  unfold lc at a ⊢
  revert h1 a
  generalize kd k = q
  intro a h1
  match q, h1, a with
  | .inl (ci, fl), h1, a =>
    have e : lf E M k 0 fl = lf E M2 k 0 fl := lf_meq E fl 0 (fun j => by simpa using h1 j)
    simp only [lcK] at a ⊢
    rw [← e]
    exact a
  | .inr (0, n, _, _), h1, a =>
    simp only [lcK, va_at] at a ⊢
    rw [a, vp_cell_i, vp_cell_i, arrV_cong (fun j hj => by rw [h1 j hj])]
  | .inr (1, n, _, _), h1, a =>
    simp only [lcK, va_at] at a ⊢
    rw [a, vp_cell_i, vp_cell_i, arrV_cong (fun j hj => by rw [h1 j hj])]
  | .inr (2, n, _, _), h1, a =>
    simp only [lcK, va_at] at a ⊢
    rw [a, vp_cell_l, vp_cell_l, arrV_cong (fun j hj => by rw [h1 j hj])]
  | .inr (t + 3, n, b, d), h1, a => exact a
theorem meq_D (E : Ee) {A : Nat → Prop} {M M2 : Mm} (h : va_D A (lw E M)) : va_D A (lw E M2) := by
  have hl : ∀ (i : Nat) (p : Nat × va_E), (lw E M2)[i]? = some p → (lw E M)[i]? = some (p.1, lc E M i) := by
    intro i p hp
    have hi : i < 505 := by have := (List.getElem?_eq_some_iff.mp hp).1; rw [lw_len] at this; exact this
    rw [lw_get E M2 hi] at hp
    cases hp
    exact lw_get E M hi
  exact ⟨fun i j p q hp hq e => h.1 i j _ _ (hl i p hp) (hl j q hq) e, fun k q hq => h.2 k (q.1, lc E M k) (hl k q hq)⟩
theorem meq_P (E : Ee) {M M2 : Mm} (h : meq M M2) {H : Heap} (a : va_P E.1 vwCl (lw E M) H) : va_P E.1 vwCl (lw E M2) H := by
  intro k q hq
  have hk : k < 505 := by have := (List.getElem?_eq_some_iff.mp hq).1; rw [lw_len] at this; exact this
  rw [lw_get E M2 hk] at hq
  cases hq
  exact meq_at E h hk (a k _ (lw_get E M hk))
theorem jj_eqv {Z : Zt} {κ : Nat × Nat} {M M2 : Mm} {pc : Nat} {L : List (Option Value)} {st : List Value} (h : meq M M2) (k : JJ Z κ M2 pc L st) : JJ Z κ M pc L st := fun H locs ls a b c d => k H locs ls (meq_P _ h a) (meq_D _ b) c d
theorem meq_wA {M : Mm} {k n x y t : Nat} {f g : Nat → Int32} (hk : kd k = .inr (t, n, x, y)) (h : ∀ j, j < n → f j = g j) : meq (wA M k f) (wA M k g) := by
  intro a ha
  by_cases e : a = k
  · subst e
    rw [hk]
    match t with
    | 0 => intro j hj; rw [wA_s, wA_s]; exact h j hj
    | 1 => intro j hj; rw [wA_s, wA_s]; exact h j hj
    | 2 => intro j hj; rfl
    | t + 3 => trivial
  · generalize kd a = q
    match q with
    | .inl (_, fl) => intro j; rw [wA_n e, wA_n e]; exact ⟨fun _ => rfl, fun _ => rfl⟩
    | .inr (0, n, _, _) => intro j hj; rw [wA_n e, wA_n e]
    | .inr (1, n, _, _) => intro j hj; rw [wA_n e, wA_n e]
    | .inr (2, n, _, _) => intro j hj; rfl
    | .inr (t + 3, n, _, _) => trivial
theorem meq_wL {M : Mm} {k n x y t : Nat} {f g : Nat → Int64} (hk : kd k = .inr (t, n, x, y)) (h : ∀ j, j < n → f j = g j) : meq (wL M k f) (wL M k g) := by
  intro a ha
  by_cases e : a = k
  · subst e
    rw [hk]
    match t with
    | 0 => intro j hj; rfl
    | 1 => intro j hj; rfl
    | 2 => intro j hj; rw [wL_s, wL_s]; exact h j hj
    | t + 3 => trivial
  · generalize kd a = q
    match q with
    | .inl (_, fl) => intro j; rw [wL_n e, wL_n e]; exact ⟨fun _ => rfl, fun _ => rfl⟩
    | .inr (0, n, _, _) => intro j hj; rfl
    | .inr (1, n, _, _) => intro j hj; rfl
    | .inr (2, n, _, _) => intro j hj; rw [wL_n e, wL_n e]
    | .inr (t + 3, n, _, _) => trivial
theorem meq_fl {M : Mm} {k n x y t : Nat} {F g : Nat → Int32} (hk : kd k = .inr (t, n, x, y)) : meq (wA M k (fl n F g)) (wA M k F) := meq_wA hk (fun _ hj => fl_in hj)
theorem meq_flL {M : Mm} {k n x y t : Nat} {F g : Nat → Int64} (hk : kd k = .inr (t, n, x, y)) : meq (wL M k (fl n F g)) (wL M k F) := meq_wL hk (fun _ hj => fl_in hj)
/-! a family of cells b, b + d, b + 2 d .. -/
def fam (b d n : Nat) (g : Nat → Nat → Int32) (M : Mm) : Mm := (fun a => if b ≤ a ∧ (a - b) % d = 0 ∧ (a - b) / d < n then g ((a - b) / d) else M.1 a, M.2)
theorem fam_2 (b d n : Nat) (g : Nat → Nat → Int32) (M : Mm) : (fam b d n g M).2 = M.2 := rfl
theorem fam_in {b d n i : Nat} {g : Nat → Nat → Int32} {M : Mm} (hd : 0 < d) (hi : i < n) : (fam b d n g M).1 (b + d * i) = g i := by
  have e : b + d * i - b = d * i := by omega
  simp only [fam, e, Nat.mul_mod_right, Nat.mul_div_cancel_left i hd]
  rw [if_pos ⟨by omega, trivial, hi⟩]
theorem fam_out {b d n a : Nat} {g : Nat → Nat → Int32} {M : Mm} (h : ∀ i, i < n → a ≠ b + d * i) : (fam b d n g M).1 a = M.1 a := by
  simp only [fam]
  rw [if_neg]
  rintro ⟨h1, h2, h3⟩
  have := Nat.div_add_mod (a - b) d
  rw [h2] at this
  exact h _ h3 (by omega)
theorem fam_0 (b d : Nat) (g : Nat → Nat → Int32) (M : Mm) : fam b d 0 g M = M := by
  refine Prod.ext ?_ rfl
  funext a
  simp [fam]
theorem fam_s {b d i : Nat} {g : Nat → Nat → Int32} {M : Mm} (hd : 0 < d) : wA (fam b d i g M) (b + d * i) (g i) = fam b d (i + 1) g M := by
  refine Prod.ext ?_ rfl
  funext a
  by_cases h : a = b + d * i
  · subst h
    rw [wA_s, fam_in hd (by omega)]
  · rw [wA_n h]
    by_cases q : ∃ j, j < i ∧ a = b + d * j
    · obtain ⟨j, hj, rfl⟩ := q
      rw [fam_in hd hj, fam_in hd (by omega)]
    · rw [fam_out (fun j hj e => q ⟨j, hj, e⟩), fam_out (fun j hj e => by
        rcases Nat.lt_or_ge j i with w | w
        · exact q ⟨j, w, e⟩
        · have : j = i := by omega
          subst this
          exact h e)]

section JX
variable {Z : Zt} {cc : ByteArray} {cx : Cond} {own : String} {rm : Room} {κ : Nat × Nat} {M : Mm} {pc : Nat} {L : List (Option Value)} {st : List Value}
theorem jj_iushr {Ts : List Cond} (F : ZF Z cc Ts own rm) {x y : Int32} (hd : decode cc pc = .ok (.iushr, 1)) (k : JJ Z κ M (pc + 1) L (.int ((x.toUInt32 >>> (y.toUInt32 &&& Int32.toUInt32 31)).toInt32) :: st)) : JJ Z κ M pc L (.int y :: .int x :: st) := fun H locs ls a b c d => lv_iushr F.x F.b hd rfl (k H locs ls a b c d)
theorem jj_ldcw {Ts : List Cond} (F : ZF Z cc Ts own rm) {index : Nat} {v : Int32} (hd : decode cc pc = .ok (.ldc_w index, 3)) (hc : (Jvm.Cond.constant own index v).before (za Z) (zs Z) = true) (k : JJ Z κ M (pc + 3) L (.int v :: st)) : JJ Z κ M pc L st := fun H locs ls a b c d => lv_ldcw F.x F.b F.ow hc hd (k H locs ls a b c d)
theorem jj_mmax (F : ZF Z cc (cx :: gl) own rm) {idx a0 b0 : Nat} (hl : Cond.methodLink own idx Lib.Math.max.name ∈ gl) (h1 : 1 ≤ rm.frames) (h2 : (st.map fun v => v.category).sum + 13 ≤ rm.locals) (h3 : κ.1 ≤ rm.cells) (h4 : κ.2 ≤ rm.slots) (ha : a0 < 2 ^ 31) (hb : b0 < 2 ^ 31) (hd : decode cc pc = .ok (.invokestatic idx, 3)) (k : JJ Z κ M (pc + 3) L (.int (nI (max a0 b0)) :: st)) : JJ Z κ M pc L (.int (nI b0) :: .int (nI a0) :: st) := fun H locs ls a b c d => by
  refine va_mmax F.x F.b (F.ml.trans d.1.symm) F.ow (F.hts _ (List.mem_cons_of_mem _ hl)) (F.hts _ (List.mem_cons_of_mem _ vw_mmax.1)) (F.hts _ (List.mem_cons_of_mem _ vw_mmax.2.1)) (F.hts _ (List.mem_cons_of_mem _ vw_mmax.2.2)) (by rw [F.R]; exact h1) (by rw [F.R]; exact h2) (by rw [F.R]; exact h3) (by rw [F.R]; exact h4) hd ?_
  have e : (if nI a0 < nI b0 then nI b0 else nI a0) = nI (max a0 b0) := by
    by_cases q : a0 < b0
    · rw [if_pos ((nI_ltI ha hb).mpr q), Nat.max_eq_right (by omega)]
    · rw [if_neg (fun w => q ((nI_ltI ha hb).mp w)), Nat.max_eq_left (by omega)]
  rw [e]
  exact k H locs ls a b c d
theorem jj_mmin (F : ZF Z cc (cx :: gl) own rm) {idx a0 b0 : Nat} (hl : Cond.methodLink own idx Lib.Math.min.name ∈ gl) (h1 : 1 ≤ rm.frames) (h2 : (st.map fun v => v.category).sum + 13 ≤ rm.locals) (h3 : κ.1 ≤ rm.cells) (h4 : κ.2 ≤ rm.slots) (ha : a0 < 2 ^ 31) (hb : b0 < 2 ^ 31) (hd : decode cc pc = .ok (.invokestatic idx, 3)) (k : JJ Z κ M (pc + 3) L (.int (nI (min a0 b0)) :: st)) : JJ Z κ M pc L (.int (nI b0) :: .int (nI a0) :: st) := fun H locs ls a b c d => by
  refine va_mmin F.x F.b (F.ml.trans d.1.symm) F.ow (F.hts _ (List.mem_cons_of_mem _ hl)) (F.hts _ (List.mem_cons_of_mem _ vw_mmin.1)) (F.hts _ (List.mem_cons_of_mem _ vw_mmin.2.1)) (F.hts _ (List.mem_cons_of_mem _ vw_mmin.2.2)) (by rw [F.R]; exact h1) (by rw [F.R]; exact h2) (by rw [F.R]; exact h3) (by rw [F.R]; exact h4) hd ?_
  have e : (if nI b0 < nI a0 then nI b0 else nI a0) = nI (min a0 b0) := by
    by_cases q : b0 < a0
    · rw [if_pos ((nI_ltI hb ha).mpr q), Nat.min_eq_right (by omega)]
    · rw [if_neg (fun w => q ((nI_ltI hb ha).mp w)), Nat.min_eq_left (by omega)]
  rw [e]
  exact k H locs ls a b c d
theorem jj_mabs (F : ZF Z cc (cx :: gl) own rm) {idx : Nat} {x : Int32} (hl : Cond.methodLink own idx Lib.Math.abs.name ∈ gl) (h1 : 1 ≤ rm.frames) (h2 : (st.map fun v => v.category).sum + 13 ≤ rm.locals) (h3 : κ.1 ≤ rm.cells) (h4 : κ.2 ≤ rm.slots) (hd : decode cc pc = .ok (.invokestatic idx, 3)) (k : JJ Z κ M (pc + 3) L (.int (if 0 ≤ x then x else 0 - x) :: st)) : JJ Z κ M pc L (.int x :: st) := fun H locs ls a b c d =>
  va_mabs F.x F.b (F.ml.trans d.1.symm) F.ow (F.hts _ (List.mem_cons_of_mem _ hl)) (F.hts _ (List.mem_cons_of_mem _ vw_mabs.1)) (F.hts _ (List.mem_cons_of_mem _ vw_mabs.2.1)) (F.hts _ (List.mem_cons_of_mem _ vw_mabs.2.2)) (by rw [F.R]; exact h1) (by rw [F.R]; exact h2) (by rw [F.R]; exact h3) (by rw [F.R]; exact h4) hd (k H locs ls a b c d)
end JX
/-! Integer.bitCount over 16 bits -/
def bcE (x : Int32) : Int32 :=
  let u (x y : Int32) : Int32 := (x.toUInt32 >>> (y.toUInt32 &&& Int32.toUInt32 31)).toInt32
  let a := x - (u x (nI 1) &&& 1431655765)
  let b := (a &&& 858993459) + (u a (nI 2) &&& 858993459)
  let c := (b + u b (nI 4)) &&& 252645135
  let d := c + u c (nI 8)
  let e := d + u d (nI 16)
  e &&& nI 63
theorem split_and {a0 a1 m0 m1 : Nat} (ha : a0 < 256) (hm : m0 < 256) : (a0 + 256 * a1) &&& (m0 + 256 * m1) = (a0 &&& m0) + 256 * (a1 &&& m1) := by
  apply Nat.eq_of_testBit_eq
  intro i
  have h1 : a0 &&& m0 < 2 ^ 8 := Nat.lt_of_le_of_lt Nat.and_le_left ha
  rw [Nat.testBit_and, Nat.add_comm a0, Nat.add_comm m0, Nat.add_comm (a0 &&& m0), show (256 : Nat) = 2 ^ 8 from rfl, Nat.testBit_two_pow_mul_add a1 (show a0 < 2 ^ 8 from ha), Nat.testBit_two_pow_mul_add m1 (show m0 < 2 ^ 8 from hm), Nat.testBit_two_pow_mul_add (a1 &&& m1) h1]
  split
  · rw [Nat.testBit_and]
  · rw [Nat.testBit_and]
def p8 (x : Nat) : Nat := x % 2 + x / 2 % 2 + x / 4 % 2 + x / 8 % 2 + x / 16 % 2 + x / 32 % 2 + x / 64 % 2 + x / 128 % 2
def s1 (x : Nat) : Nat := x - (x / 2 &&& 85)
def s2 (x : Nat) : Nat := (x &&& 51) + (x / 4 &&& 51)
def s3 (x : Nat) : Nat := (x + x / 16) &&& 15
theorem st_1 : ∀ x, x < 256 → (∀ r, r < 2 → (x / 2 + 128 * r) &&& 85 = (x / 2 &&& 85)) ∧ s1 x < 256 ∧ (x / 2 &&& 85) ≤ x := by decide +kernel
theorem st_2 : ∀ x, x < 256 → (∀ r, r < 4 → (x / 4 + 64 * r) &&& 51 = (x / 4 &&& 51)) := by decide +kernel
theorem st_2b : ∀ x, x < 256 → s2 (s1 x) ≤ 68 ∧ s2 (s1 x) % 16 ≤ 4 := by decide +kernel
theorem st_3 : ∀ x, x < 69 → ∀ r, r < 5 → (x + x / 16 + 16 * r) &&& 15 = s3 x := by decide +kernel
theorem st_4 : ∀ x, x < 256 → s3 (s2 (s1 x)) = p8 x ∧ p8 x ≤ 8 := by decide +kernel
theorem st_5 : ∀ x, x < 9 → ∀ y, y < 9 → (x + 256 * y + y) &&& 63 = x + y := by decide +kernel
def bcM (n : Nat) : Nat :=
  let a := n - (n / 2 &&& 1431655765)
  let b := (a &&& 858993459) + (a / 4 &&& 858993459)
  let c := (b + b / 16) &&& 252645135
  let d := c + c / 256
  let e := d + d / 65536
  e &&& 63
theorem and_low {x m m0 : Nat} (k : Nat) (hx : x < 2 ^ k) (hm : m % 2 ^ k = m0) : x &&& m = x &&& m0 := by
  apply Nat.eq_of_testBit_eq
  intro i
  rw [Nat.testBit_and, Nat.testBit_and]
  by_cases h : i < k
  · subst hm
    rw [Nat.testBit_mod_two_pow]
    simp [h]
  · rw [Nat.testBit_lt_two_pow (Nat.lt_of_lt_of_le hx (Nat.pow_le_pow_right (by omega) (by omega)))]
    simp
theorem bcM_eq {lo hi : Nat} (h1 : lo < 256) (h2 : hi < 256) : bcM (lo + 256 * hi) = p8 lo + p8 hi := by
  have e1 : (lo + 256 * hi) / 2 &&& 1431655765 = (lo / 2 &&& 85) + 256 * (hi / 2 &&& 85) := by
    rw [and_low 16 (m0 := 85 + 256 * 85) (by omega) (by decide), show (lo + 256 * hi) / 2 = (lo / 2 + 128 * (hi % 2)) + 256 * (hi / 2) by omega, split_and (by omega) (by omega), (st_1 lo h1).1 _ (by omega)]
  have q1 := (st_1 lo h1).2
  have q2 := (st_1 hi h2).2
  have ea : (lo + 256 * hi) - ((lo + 256 * hi) / 2 &&& 1431655765) = s1 lo + 256 * s1 hi := by
    rw [e1]
    unfold s1
    have := q1.2
    have := q2.2
    omega
  have e2 : ∀ x y, x < 256 → y < 256 → (x + 256 * y &&& 858993459) + ((x + 256 * y) / 4 &&& 858993459) = s2 x + 256 * s2 y := by
    intro x y hx hy
    rw [and_low 16 (m0 := 51 + 256 * 51) (by omega) (by decide), and_low (x := (x + 256 * y) / 4) 16 (m0 := 51 + 256 * 51) (by omega) (by decide), split_and hx (by omega), show (x + 256 * y) / 4 = (x / 4 + 64 * (y % 4)) + 256 * (y / 4) by omega, split_and (by omega) (by omega), st_2 x hx _ (by omega)]
    unfold s2
    omega
  have e3 : ∀ x y, x < 69 → y < 69 → y % 16 ≤ 4 → (x + 256 * y + (x + 256 * y) / 16) &&& 252645135 = s3 x + 256 * s3 y := by
    intro x y hx hy hz
    rw [and_low 16 (m0 := 15 + 256 * 15) (by omega) (by decide), show x + 256 * y + (x + 256 * y) / 16 = (x + x / 16 + 16 * (y % 16)) + 256 * (y + y / 16) by omega, split_and (by omega) (by omega), st_3 x hx _ (by omega)]
    unfold s3
    omega
  have f1 := st_2b lo h1
  have f2 := st_2b hi h2
  have g1 := st_4 lo h1
  have g2 := st_4 hi h2
  unfold bcM
  dsimp only
  rw [ea, e2 _ _ q1.1 q2.1, e3 _ _ (by omega) (by omega) f2.2, g1.1, g2.1, show (p8 lo + 256 * p8 hi) / 256 = p8 hi by omega, show (p8 lo + 256 * p8 hi + p8 hi) / 65536 = 0 by omega, Nat.add_zero, st_5 _ (by omega) _ (by omega)]
theorem p8_ct (p : Nat → Bool) (x : Nat) (h : ∀ i, i < 8 → x.testBit i = p i) : p8 x = fb_ct p 8 := by
  have q : ∀ i, i < 8 → x / 2 ^ i % 2 = if p i then 1 else 0 := by
    intro i hi
    rw [← h i hi, Nat.testBit_eq_decide_div_mod_eq]
    have := Nat.mod_lt (x / 2 ^ i) (show 0 < 2 by omega)
    by_cases e : x / 2 ^ i % 2 = 1
    · simp [e]
    · have : x / 2 ^ i % 2 = 0 := by omega
      simp [this]
  have q0 := q 0 (by omega)
  have q1 := q 1 (by omega)
  have q2 := q 2 (by omega)
  have q3 := q 3 (by omega)
  have q4 := q 4 (by omega)
  have q5 := q 5 (by omega)
  have q6 := q 6 (by omega)
  have q7 := q 7 (by omega)
  simp only [Nat.reducePow, Nat.div_one] at q0 q1 q2 q3 q4 q5 q6 q7
  simp only [p8, fb_ct, q0, q1, q2, q3, q4, q5, q6, q7, Nat.zero_add]
theorem bcM_ct {n : Nat} (h : n < 65536) : bcM n = fb_ct (fun i => n.testBit i) 16 := by
  have e : n = n % 256 + 256 * (n / 256) := by omega
  rw [show (16 : Nat) = 8 + 8 from rfl, fb_ct_split]
  rw [← p8_ct (fun i => n.testBit i) (n % 256) (fun i hi => by rw [show (256 : Nat) = 2 ^ 8 from rfl, Nat.testBit_mod_two_pow]; simp [hi])]
  rw [← p8_ct (fun i => n.testBit (8 + i)) (n / 256) (fun i hi => by rw [show (256 : Nat) = 2 ^ 8 from rfl, Nat.testBit_div_two_pow, Nat.add_comm])]
  rw [← bcM_eq (by omega) (by omega), ← e]
theorem nI_and (a b : Nat) : nI a &&& nI b = nI (a &&& b) := by
  apply bt_ext
  intro i hi
  rw [bt_and, bt_nI _ _ hi, bt_nI _ _ hi, bt_nI _ _ hi, Nat.testBit_and]
theorem nI_ushr {n : Nat} (hn : n < 2 ^ 32) (k : Nat) (hk : k < 32) : ((nI n).toUInt32 >>> ((nI k).toUInt32 &&& Int32.toUInt32 31)).toInt32 = nI (n / 2 ^ k) := pk_ushrN hn (nI k) k (by revert k; decide +kernel)
theorem bcE_eq {n : Nat} (h : n < 65536) : bcE (nI n) = nI (bcM n) := by
  have k1 : (1431655765 : Int32) = nI 1431655765 := by decide
  have k2 : (858993459 : Int32) = nI 858993459 := by decide
  have k3 : (252645135 : Int32) = nI 252645135 := by decide
  unfold bcE bcM
  dsimp only
  rw [k1, k2, k3]
  have l1 : n / 2 &&& 1431655765 ≤ n := Nat.le_trans Nat.and_le_left (by omega)
  rw [nI_ushr (by omega) 1 (by omega), nI_and, show n / 2 ^ 1 = n / 2 by omega, pk_sub l1]
  generalize ha : n - (n / 2 &&& 1431655765) = a
  have la : a < 65536 := by omega
  rw [nI_and, nI_ushr (by omega) 2 (by omega), nI_and, show a / 2 ^ 2 = a / 4 by omega, nI_add]
  have lb1 : a &&& 858993459 ≤ a := Nat.and_le_left
  have lb2 : a / 4 &&& 858993459 ≤ a / 4 := Nat.and_le_left
  generalize hb : (a &&& 858993459) + (a / 4 &&& 858993459) = b
  have lb : b < 131072 := by omega
  rw [nI_ushr (by omega) 4 (by omega), nI_add, nI_and, show b / 2 ^ 4 = b / 16 by omega]
  have lc1 : (b + b / 16) &&& 252645135 ≤ b + b / 16 := Nat.and_le_left
  generalize hc : (b + b / 16) &&& 252645135 = c
  have lc : c < 262144 := by omega
  rw [nI_ushr (by omega) 8 (by omega), nI_add, show c / 2 ^ 8 = c / 256 by omega, nI_ushr (by omega) 16 (by omega), nI_add, nI_and, show (c + c / 256) / 2 ^ 16 = (c + c / 256) / 65536 by omega]
