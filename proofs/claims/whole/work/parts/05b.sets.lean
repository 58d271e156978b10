/-! sets of cells, as rows of ints and as words of longs -/
def bsum (p : Nat → Bool) : Nat → Nat
  | 0 => 0
  | n + 1 => bsum p n + (if p n then 2 ^ n else 0)
theorem bsum_lt (p : Nat → Bool) : ∀ n, bsum p n < 2 ^ n
  | 0 => by simp [bsum]
  | n + 1 => by
    have h := bsum_lt p n
    have e : 2 ^ (n + 1) = 2 ^ n + 2 ^ n := by rw [Nat.pow_succ]; omega
    rw [e]
    unfold bsum
    split <;> omega
theorem bsum_bit (p : Nat → Bool) : ∀ n j, (bsum p n).testBit j = (decide (j < n) && p j)
  | 0, j => by simp [bsum]
  | n + 1, j => by
    have h := bsum_lt p n
    have ih := bsum_bit p n j
    unfold bsum
    cases hp : p n
    · simp only [Bool.false_eq_true, if_false, Nat.add_zero]
      rw [ih]
      by_cases e : j = n
      · subst e; simp [hp]
      · by_cases h1 : j < n
        · simp [h1, show j < n + 1 by omega]
        · simp [h1, show ¬ j < n + 1 by omega]
    · simp only [if_true]
      rw [Nat.add_comm, ← Nat.one_mul (2 ^ n), Nat.mul_comm]
      by_cases e : j = n
      · subst e
        rw [Nat.testBit_two_pow_mul_add 1 h j]
        simp [hp]
      · by_cases h1 : j < n
        · rw [Nat.testBit_two_pow_mul_add 1 h j]
          simp [h1, ih, show j < n + 1 by omega]
        · rw [Nat.testBit_two_pow_mul_add 1 h j]
          rw [if_neg h1]
          have q : Nat.testBit 1 (j - n) = false := by
            cases hq : Nat.testBit 1 (j - n)
            · rfl
            · have := Nat.testBit_one_eq_true_iff_self_eq_zero.mp hq
              omega
          rw [q]
          simp [show ¬ j < n + 1 by omega]
theorem bsum_cong {p q : Nat → Bool} : ∀ {n : Nat}, (∀ x, x < n → p x = q x) → bsum p n = bsum q n
  | 0, _ => rfl
  | n + 1, h => by
    have a := bsum_cong (p := p) (q := q) (n := n) (fun x hx => h x (by omega))
    have b := h n (by omega)
    simp [bsum, a, b]
theorem bt_nI (n j : Nat) (hj : j < 32) : bt (nI n) j = n.testBit j := by
  show (BitVec.ofNat 32 n).getLsbD j = _
  rw [BitVec.getLsbD_ofNat]
  simp [hj]
theorem bt_big {x : Int32} {i : Nat} (h : 32 ≤ i) : bt x i = false := BitVec.getLsbD_of_ge x.toBitVec i h
theorem bt_ext {x y : Int32} (h : ∀ i, i < 32 → bt x i = bt y i) : x = y := Int32.toBitVec_inj.mp (BitVec.eq_of_getLsbD_eq (fun i hi => h i hi))
theorem bt_or (x y : Int32) (i : Nat) : bt (x ||| y) i = (bt x i || bt y i) := BitVec.getLsbD_or
theorem bt_and (x y : Int32) (i : Nat) : bt (x &&& y) i = (bt x i && bt y i) := BitVec.getLsbD_and
theorem bt_xor (x y : Int32) (i : Nat) : bt (x ^^^ y) i = (bt x i ^^ bt y i) := BitVec.getLsbD_xor
theorem bt_m1 : ∀ i, i < 32 → bt (-1) i = true := by decide +kernel
theorem bt_0 (i : Nat) : bt (nI 0) i = false := by
  show (BitVec.ofNat 32 0).getLsbD i = false
  simp
theorem bt_one : ∀ j, j < 16 → ∀ i, i < 32 → bt (nI 1 <<< (nI j &&& 31)) i = decide (i = j) := by decide +kernel
/-- a set's rows -/
def rowsOf (S : Nat → Bool) : Nat → Int32 := fun y => nI (bsum (fun x => S (16 * y + x)) 16)
theorem bt_rows (S : Nat → Bool) (y i : Nat) (hi : i < 32) : bt (rowsOf S y) i = (decide (i < 16) && S (16 * y + i)) := by
  unfold rowsOf
  rw [bt_nI _ _ hi, bsum_bit]
theorem rows_at (S : Nat → Bool) (c : Nat) : bt (rowsOf S (c / 16)) (c % 16) = S c := by
  rw [bt_rows _ _ _ (by omega)]
  have e : 16 * (c / 16) + c % 16 = c := by omega
  simp [e, Nat.mod_lt]
theorem rows_cong {S T : Nat → Bool} {y : Nat} (h : ∀ x, x < 16 → S (16 * y + x) = T (16 * y + x)) : rowsOf S y = rowsOf T y := by
  unfold rowsOf
  rw [bsum_cong h]
theorem rows_0 : (fun _ => nI 0) = rowsOf (fun _ => false) := by
  funext y
  apply bt_ext
  intro i hi
  rw [bt_rows _ _ _ hi, bt_0]
  simp
theorem rows_or (S T : Nat → Bool) (y : Nat) : rowsOf S y ||| rowsOf T y = rowsOf (fun c => S c || T c) y := by
  apply bt_ext
  intro i hi
  rw [bt_or, bt_rows _ _ _ hi, bt_rows _ _ _ hi, bt_rows _ _ _ hi]
  cases decide (i < 16) <;> simp
theorem rows_sub (S T : Nat → Bool) (y : Nat) : rowsOf S y &&& (rowsOf T y ^^^ -1) = rowsOf (fun c => S c && !T c) y := by
  apply bt_ext
  intro i hi
  rw [bt_and, bt_xor, bt_m1 i hi, bt_rows _ _ _ hi, bt_rows _ _ _ hi, bt_rows _ _ _ hi]
  cases decide (i < 16) <;> simp
theorem rows_and0 (S T : Nat → Bool) (y : Nat) : rowsOf S y &&& rowsOf T y = 0 ↔ ∀ x, x < 16 → (S (16 * y + x) && T (16 * y + x)) = false := by
  constructor
  · intro h x hx
    have e : bt (rowsOf S y &&& rowsOf T y) x = bt (nI 0) x := by rw [h]; rfl
    rw [bt_and, bt_rows _ _ _ (by omega), bt_rows _ _ _ (by omega), bt_0] at e
    simpa [hx] using e
  · intro h
    apply bt_ext
    intro i hi
    show _ = bt (nI 0) i
    rw [bt_and, bt_rows _ _ _ hi, bt_rows _ _ _ hi, bt_0]
    by_cases q : i < 16
    · simpa [q] using h i q
    · simp [q]
theorem rows_is0 (S : Nat → Bool) (y : Nat) : rowsOf S y = 0 ↔ ∀ x, x < 16 → S (16 * y + x) = false := by
  constructor
  · intro h x hx
    have e : bt (rowsOf S y) x = bt (nI 0) x := by rw [h]; rfl
    rw [bt_rows _ _ _ (by omega), bt_0] at e
    simpa [hx] using e
  · intro h
    apply bt_ext
    intro i hi
    show _ = bt (nI 0) i
    rw [bt_rows _ _ _ hi, bt_0]
    by_cases q : i < 16
    · simpa [q] using h i q
    · simp [q]
theorem rows_inc (S : Nat → Bool) (c : Nat) : rowsOf S (c / 16) ||| (nI 1 <<< (nI (c % 16) &&& 31)) = rowsOf (fun d => S d || d == c) (c / 16) := by
  apply bt_ext
  intro i hi
  rw [bt_or, bt_one _ (by omega) i hi, bt_rows _ _ _ hi, bt_rows _ _ _ hi]
  by_cases q : i < 16
  · have e : decide (i = c % 16) = (16 * (c / 16) + i == c) := by
      rw [Bool.eq_iff_iff]
      simp
      omega
    simp [q, e]
  · have : ¬ i = c % 16 := by omega
    simp [q, this]
theorem rows_exc (S : Nat → Bool) (c : Nat) : rowsOf S (c / 16) &&& ((nI 1 <<< (nI (c % 16) &&& 31)) ^^^ -1) = rowsOf (fun d => S d && !(d == c)) (c / 16) := by
  apply bt_ext
  intro i hi
  rw [bt_and, bt_xor, bt_m1 i hi, bt_one _ (by omega) i hi, bt_rows _ _ _ hi, bt_rows _ _ _ hi]
  by_cases q : i < 16
  · have e : decide (i = c % 16) = (16 * (c / 16) + i == c) := by
      rw [Bool.eq_iff_iff]
      simp
      omega
    simp [q, e]
  · simp [q]
theorem upd_rows {S T : Nat → Bool} {y : Nat} {v : Int32} (hv : v = rowsOf T y) (ho : ∀ c, c / 16 ≠ y → S c = T c) : upd (rowsOf S) y v = rowsOf T := by
  funext z
  by_cases h : z = y
  · subst h; simp [upd, hv]
  · simp only [upd, if_neg h]
    exact rows_cong (fun x hx => ho _ (by omega))
/-! words of longs -/
def bl (x : Int64) (i : Nat) : Bool := x.toBitVec.getLsbD i
theorem bl_lN (n j : Nat) (hj : j < 64) : bl (lN n) j = n.testBit j := by
  show (BitVec.ofNat 64 n).getLsbD j = _
  rw [BitVec.getLsbD_ofNat]
  simp [hj]
theorem bl_ext {x y : Int64} (h : ∀ i, i < 64 → bl x i = bl y i) : x = y := Int64.toBitVec_inj.mp (BitVec.eq_of_getLsbD_eq (fun i hi => h i hi))
theorem bl_or (x y : Int64) (i : Nat) : bl (x ||| y) i = (bl x i || bl y i) := BitVec.getLsbD_or
theorem bl_and (x y : Int64) (i : Nat) : bl (x &&& y) i = (bl x i && bl y i) := BitVec.getLsbD_and
theorem bl_xor (x y : Int64) (i : Nat) : bl (x ^^^ y) i = (bl x i ^^ bl y i) := BitVec.getLsbD_xor
theorem bl_m1 : ∀ i, i < 64 → bl (-1) i = true := by decide +kernel
theorem bl_0 (i : Nat) : bl (lN 0) i = false := by
  show (BitVec.ofNat 64 0).getLsbD i = false
  simp
def lwOf (S : Nat → Bool) (w : Nat) : Int64 := lN (bsum (fun x => S (64 * w + x)) 64)
theorem bl_lw (S : Nat → Bool) (w i : Nat) (hi : i < 64) : bl (lwOf S w) i = S (64 * w + i) := by
  unfold lwOf
  rw [bl_lN _ _ hi, bsum_bit]
  simp [hi]
