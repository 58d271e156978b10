/-! helpers of the walks -/
theorem iinc1 (i : Nat) : nI i + Int32.ofInt 1 = nI (i + 1) := by
  have h : Int32.ofInt 1 = 1 := by decide
  rw [h]
  exact nI_1 i
theorem nar_z {x : Int32} (h : x = 0 ∨ x = 1) : narrow .boolean (.int x) = .int x := by rcases h with rfl | rfl <;> rfl
def b2i (b : Bool) : Int32 := if b then nI 1 else nI 0
theorem b2i_01 (b : Bool) : b2i b = 0 ∨ b2i b = 1 := by cases b <;> decide
theorem b2i_t {b : Bool} (h : b = true) : nI 1 = b2i b := by subst h; rfl
theorem b2i_f {b : Bool} (h : b = false) : nI 0 = b2i b := by subst h; rfl
theorem b2i_0 (b : Bool) : b2i b = 0 ↔ b = false := by cases b <;> decide
theorem b2i_n0 (b : Bool) : ¬ b2i b = 0 ↔ b = true := by cases b <;> decide
/-- a loop's induction -/
theorem jj_loop {P : Nat → Prop} (N : Nat) (he : P N) (hs : ∀ i, i < N → P (i + 1) → P i) : ∀ i, i ≤ N → P i := by
  intro i hi
  obtain ⟨n, rfl⟩ : ∃ n, N = i + n := ⟨N - i, by omega⟩
  clear hi
  induction n generalizing i with
  | zero => exact he
  | succ n ih => exact hs i (by omega) (ih (i + 1) (by rw [show i + 1 + n = i + (n + 1) by omega]; exact he) (fun j hj => hs j (by omega)))
/-- the first n places as F says, the others as they were -/
def fl {α : Type} (n : Nat) (F g : Nat → α) : Nat → α := fun y => if y < n then F y else g y
theorem fl_in {α : Type} {n y : Nat} {F g : Nat → α} (h : y < n) : fl n F g y = F y := if_pos h
theorem fl_out {α : Type} {n y : Nat} {F g : Nat → α} (h : ¬ y < n) : fl n F g y = g y := if_neg h
theorem fl_z {α : Type} (F g : Nat → α) : fl 0 F g = g := by funext y; simp [fl]
theorem fl_0 (M : Mm) (k : Nat) (F : Nat → Int32) : M = wA M k (fl 0 F (M.1 k)) := by rw [fl_z, wA_same]
theorem fl_s {i : Nat} {F g : Nat → Int32} {v : Int32} (hv : v = F i) : upd (fl i F g) i v = fl (i + 1) F g := by
  funext y
  by_cases h : y = i
  · subst h; simp [upd, fl, hv]
  · by_cases h2 : y < i
    · simp [upd, fl, h, h2, show y < i + 1 by omega]
    · simp [upd, fl, h, h2, show ¬ y < i + 1 by omega]
theorem fl_put {M : Mm} {k i : Nat} {F g : Nat → Int32} {v : Int32} (hv : v = F i) : wA (wA M k (fl i F g)) k (upd ((wA M k (fl i F g)).1 k) i v) = wA M k (fl (i + 1) F g) := by
  rw [wA_s, wA_wA, fl_s hv]
theorem fl_0L (M : Mm) (k : Nat) (F : Nat → Int64) : M = wL M k (fl 0 F (M.2 k)) := by rw [fl_z, wL_same]
theorem fl_sL {i : Nat} {F g : Nat → Int64} {v : Int64} (hv : v = F i) : vp_updL (fl i F g) i v = fl (i + 1) F g := by
  funext y
  by_cases h : y = i
  · subst h; simp [vp_updL, fl, hv]
  · by_cases h2 : y < i
    · simp [vp_updL, fl, h, h2, show y < i + 1 by omega]
    · simp [vp_updL, fl, h, h2, show ¬ y < i + 1 by omega]
theorem fl_putL {M : Mm} {k i : Nat} {F g : Nat → Int64} {v : Int64} (hv : v = F i) : wL (wL M k (fl i F g)) k (vp_updL ((wL M k (fl i F g)).2 k) i v) = wL M k (fl (i + 1) F g) := by
  rw [wL_s, wL_wL, fl_sL hv]
/-- bits -/
def bt (x : Int32) (i : Nat) : Bool := x.toBitVec.getLsbD i
theorem ix_row {c : Nat} (hc : c < 256) : (nI c >>> (nI 4 &&& 31)) &&& nI 15 = nI (c / 16) := by
  rw [pk_shrN (n := c) (by omega) (nI 4 &&& 31) 4 (by decide), pk_andN (n := c / 2 ^ 4) (by omega) (m := nI 15) 4 (by decide)]
  congr 1
  omega
theorem ix_col {c : Nat} (hc : c < 256) : nI c &&& nI 15 = nI (c % 16) := pk_andN (n := c) (by omega) (m := nI 15) 4 (by decide)
theorem ix_row1 {c : Nat} (hc : c < 256) : nI c >>> (nI 4 &&& 31) = nI (c / 16) := by
  rw [pk_shrN (n := c) (by omega) (nI 4 &&& 31) 4 (by decide)]
theorem bt_s_l : ∀ n, n < 32 → ((nI n &&& 31).toBitVec.smod 32).toNat = n := by decide +kernel
theorem bt_test (v : Int32) {j : Nat} (hj : j < 32) : (v >>> (nI j &&& 31)) &&& nI 1 = nI 1 ↔ bt v j = true := by
  have e : ((v >>> (nI j &&& 31)) &&& nI 1).toBitVec = (BitVec.ofBool (bt v j)).setWidth 32 := by
    apply BitVec.eq_of_getLsbD_eq
    intro i hi
    have hs := bt_s_l j hj
    show ((v >>> (nI j &&& 31)).toBitVec &&& (nI 1).toBitVec).getLsbD i = _
    rw [show (v >>> (nI j &&& 31)).toBitVec = v.toBitVec.sshiftRight ((nI j &&& 31).toBitVec.smod 32).toNat from rfl, hs]
    by_cases h0 : i = 0
    · subst h0
      have a1 : (v.toBitVec.sshiftRight j).getLsbD 0 = bt v j := by
        rw [BitVec.getLsbD_sshiftRight]
        simp [hj, bt]
      have a2 : (nI 1).toBitVec.getLsbD 0 = true := by decide
      rw [BitVec.getLsbD_and, a1, a2]
      cases bt v j <;> decide
    · have : (nI 1).toBitVec.getLsbD i = false := by
        show (1#32).getLsbD i = false
        simp [BitVec.getLsbD_one, h0]
      rw [BitVec.getLsbD_and, this]
      simp [h0]
  constructor
  · intro h
    rw [h] at e
    cases hb : bt v j
    · rw [hb] at e; revert e; decide
    · rfl
  · intro h
    rw [h] at e
    exact Int32.toBitVec_inj.mp e

theorem symm2 {α β : Type} {a b : α} {c d : β} (h : a = b ∧ c = d) : b = a ∧ d = c := ⟨h.1.symm, h.2.symm⟩
