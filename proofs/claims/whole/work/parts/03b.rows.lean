/-! locals as a list: none = not known -/
def lq_clr : Option Value → Option Value
  | some (.long _) => none
  | some (.double _) => none
  | o => o
def lq_st : List (Option Value) → Nat → Value → List (Option Value)
  | [], _, _ => []
  | _ :: t, 0, v => some v :: t
  | o :: t, 1, v => lq_clr o :: lq_st t 0 v
  | o :: t, i + 2, v => o :: lq_st t (i + 1) v
def lq_no : List (Option Value) → Nat → List (Option Value)
  | [], _ => []
  | _ :: t, 0 => none :: t
  | o :: t, i + 1 => o :: lq_no t i
def lq_has (ls : Array Slot) (nL : Nat) (L : List (Option Value)) : Prop := ls.size = nL ∧ lv_wf ls ∧ ∀ (i : Nat) (v : Value), L[i]? = some (some v) → ls[i]? = some (.val v)
def lq_pr : Nat → List (Option Value) → List (Nat × Value)
  | _, [] => []
  | i, none :: t => lq_pr (i + 1) t
  | i, some v :: t => (i, v) :: lq_pr (i + 1) t
theorem lq_pr_mem : ∀ (L : List (Option Value)) (b i : Nat) (v : Value), (i, v) ∈ lq_pr b L → b ≤ i ∧ L[i - b]? = some (some v)
  | [], _, _, _, h => by simp [lq_pr] at h
  | none :: t, b, i, v, h => by
    have := lq_pr_mem t (b + 1) i v (by simpa [lq_pr] using h)
    refine ⟨by omega, ?_⟩
    rw [show i - b = (i - (b + 1)) + 1 by omega]
    simpa using this.2
  | some u :: t, b, i, v, h => by
    simp only [lq_pr, List.mem_cons, Prod.mk.injEq] at h
    rcases h with ⟨rfl, rfl⟩ | h
    · exact ⟨Nat.le_refl _, by simp⟩
    · have := lq_pr_mem t (b + 1) i v h
      refine ⟨by omega, ?_⟩
      rw [show i - b = (i - (b + 1)) + 1 by omega]
      simpa using this.2
theorem lq_pr_in : ∀ (L : List (Option Value)) (b i : Nat) (v : Value), L[i]? = some (some v) → (b + i, v) ∈ lq_pr b L
  | [], _, _, _, h => by simp at h
  | none :: t, b, 0, v, h => by simp at h
  | some u :: t, b, 0, v, h => by simp at h; subst h; simp [lq_pr]
  | none :: t, b, i + 1, v, h => by
    have := lq_pr_in t (b + 1) i v (by simpa using h)
    rw [show b + (i + 1) = b + 1 + i by omega]
    simpa [lq_pr] using this
  | some u :: t, b, i + 1, v, h => by
    have := lq_pr_in t (b + 1) i v (by simpa using h)
    rw [show b + (i + 1) = b + 1 + i by omega]
    simp only [lq_pr, List.mem_cons]
    exact Or.inr this
theorem lq_lv {ls : Array Slot} {nL : Nat} {L : List (Option Value)} (h : lq_has ls nL L) : lv_has ls nL (lq_pr 0 L) := ⟨h.1, h.2.1, fun q hq => h.2.2 q.1 q.2 (by have := lq_pr_mem L 0 q.1 q.2 hq; simpa using this.2)⟩
theorem lq_of {ls : Array Slot} {nL : Nat} {L : List (Option Value)} (h : lv_has ls nL (lq_pr 0 L)) : lq_has ls nL L := ⟨h.1, h.2.1, fun i v hi => h.2.2 (i, v) (by have := lq_pr_in L 0 i v hi; simpa using this)⟩
theorem lq_clr_some {o : Option Value} {v : Value} (h : lq_clr o = some v) : o = some v ∧ v.category = 1 := by
  match o with
  | none => simp [lq_clr] at h
  | some (.long _) => simp [lq_clr] at h
  | some (.double _) => simp [lq_clr] at h
  | some (.int x) => simp [lq_clr] at h; subst h; exact ⟨rfl, rfl⟩
  | some (.float x) => simp [lq_clr] at h; subst h; exact ⟨rfl, rfl⟩
  | some (.ref x) => simp [lq_clr] at h; subst h; exact ⟨rfl, rfl⟩
  | some .null => simp [lq_clr] at h; subst h; exact ⟨rfl, rfl⟩
  | some (.retAddr _) => simp [lq_clr] at h; subst h; exact ⟨rfl, rfl⟩
theorem lq_st_get : ∀ (L : List (Option Value)) (i : Nat) (x : Value) (j : Nat) (v : Value), (lq_st L i x)[j]? = some (some v) → (j = i ∧ v = x) ∨ (j ≠ i ∧ L[j]? = some (some v) ∧ (j + 1 = i → v.category = 1))
  | [], _, _, _, _, h => by simp [lq_st] at h
  | o :: t, 0, x, 0, v, h => by simp [lq_st] at h; exact Or.inl ⟨rfl, h.symm⟩
  | o :: t, 0, x, j + 1, v, h => Or.inr ⟨by omega, by simpa [lq_st] using h, by omega⟩
  | o :: t, 1, x, 0, v, h => by
    have := lq_clr_some (o := o) (v := v) (by simpa [lq_st] using h)
    exact Or.inr ⟨by omega, by simp [this.1], fun _ => this.2⟩
  | o :: t, 1, x, j + 1, v, h => by
    have := lq_st_get t 0 x j v (by simpa [lq_st] using h)
    rcases this with ⟨a, b⟩ | ⟨a, b, c⟩
    · exact Or.inl ⟨by omega, b⟩
    · exact Or.inr ⟨by omega, by simpa using b, by omega⟩
  | o :: t, i + 2, x, 0, v, h => Or.inr ⟨by omega, by simpa [lq_st] using h, by omega⟩
  | o :: t, i + 2, x, j + 1, v, h => by
    have := lq_st_get t (i + 1) x j v (by simpa [lq_st] using h)
    rcases this with ⟨a, b⟩ | ⟨a, b, c⟩
    · exact Or.inl ⟨by omega, b⟩
    · exact Or.inr ⟨by omega, by simpa using b, fun e => c (by omega)⟩
theorem lq_no_get : ∀ (L : List (Option Value)) (i : Nat) (j : Nat) (v : Value), (lq_no L i)[j]? = some (some v) → j ≠ i ∧ L[j]? = some (some v)
  | [], _, _, _, h => by simp [lq_no] at h
  | o :: t, 0, 0, v, h => by simp [lq_no] at h
  | o :: t, 0, j + 1, v, h => ⟨by omega, by simpa [lq_no] using h⟩
  | o :: t, i + 1, 0, v, h => ⟨by omega, by simpa [lq_no] using h⟩
  | o :: t, i + 1, j + 1, v, h => by
    have := lq_no_get t i j v (by simpa [lq_no] using h)
    exact ⟨by omega, by simpa using this.2⟩
theorem lq_store1 {ls' : Array Slot} {nL : Nat} {L : List (Option Value)} {i : Nat} {x : Value} (h : lv_has ls' nL ((i, x) :: (lq_pr 0 L).filter (fun q => !(q.1 == i) && !(q.1 + 1 == i && q.2.category == 2)))) : lq_has ls' nL (lq_st L i x) := by
  refine ⟨h.1, h.2.1, fun j v hj => ?_⟩
  rcases lq_st_get L i x j v hj with ⟨rfl, rfl⟩ | ⟨a, b, c⟩
  · exact h.2.2 (j, v) List.mem_cons_self
  · refine h.2.2 (j, v) (List.mem_cons_of_mem _ (List.mem_filter.mpr ⟨by simpa using lq_pr_in L 0 j v b, ?_⟩))
    by_cases e : j + 1 = i
    · simp [a, c e]
    · simp [a, e]
theorem lq_store2 {ls' : Array Slot} {nL : Nat} {L : List (Option Value)} {i : Nat} {x : Value} (h : lv_has ls' nL ((i, x) :: (lq_pr 0 L).filter (fun q => !(q.1 == i) && (!(q.1 == i + 1) && !(q.1 + 1 == i && q.2.category == 2))))) : lq_has ls' nL (lq_no (lq_st L i x) (i + 1)) := by
  refine ⟨h.1, h.2.1, fun j v hj => ?_⟩
  obtain ⟨hn, hj⟩ := lq_no_get _ _ _ _ hj
  rcases lq_st_get L i x j v hj with ⟨rfl, rfl⟩ | ⟨a, b, c⟩
  · exact h.2.2 (j, v) List.mem_cons_self
  · refine h.2.2 (j, v) (List.mem_cons_of_mem _ (List.mem_filter.mpr ⟨by simpa using lq_pr_in L 0 j v b, ?_⟩))
    by_cases e : j + 1 = i
    · simp [a, hn, c e]
    · simp [a, hn, e]
/-! the judgement: a machine (Zt), what it owes, and a state of the walk -/
abbrev Zt : Type := (Program × Launch × Env × Room × State × MethodId × Array Value × List Frame × Method × Code) × (Ee × (Nat → Prop) × Heap × (State → Prop) × Nat)
abbrev zp (Z : Zt) : Program := Z.1.1
abbrev zl (Z : Zt) : Launch := Z.1.2.1
abbrev ze (Z : Zt) : Env := Z.1.2.2.1
abbrev zR (Z : Zt) : Room := Z.1.2.2.2.1
abbrev zs (Z : Zt) : State := Z.1.2.2.2.2.1
abbrev zm (Z : Zt) : MethodId := Z.1.2.2.2.2.2.1
abbrev za (Z : Zt) : Array Value := Z.1.2.2.2.2.2.2.1
abbrev zb (Z : Zt) : List Frame := Z.1.2.2.2.2.2.2.2.1
abbrev zt (Z : Zt) : Method := Z.1.2.2.2.2.2.2.2.2.1
abbrev zc (Z : Zt) : Code := Z.1.2.2.2.2.2.2.2.2.2
abbrev zE (Z : Zt) : Ee := Z.2.1
abbrev zA (Z : Zt) : Nat → Prop := Z.2.2.1
abbrev zH (Z : Zt) : Heap := Z.2.2.2.1
abbrev zQ (Z : Zt) : State → Prop := Z.2.2.2.2.1
abbrev zn (Z : Zt) : Nat := Z.2.2.2.2.2
abbrev zW (Z : Zt) (H : Heap) (locs : List Loc) (κ : Nat × Nat) (g : JFrame) : Prop := W (zp Z) (zl Z) (ze Z) (zR Z) (zs Z) (zm Z) (za Z) (zb Z) (zt Z) (zc Z) H locs κ.1 κ.2 (zQ Z) g
def JJ (Z : Zt) (κ : Nat × Nat) (M : Mm) (pc : Nat) (L : List (Option Value)) (st : List Value) : Prop :=
  ∀ (H : Heap) (locs : List Loc) (ls : Array Slot), va_P (zE Z).1 vwCl (lw (zE Z) M) H → va_D (zA Z) (lw (zE Z) M) → va_S (zA Z) (zH Z) H locs → lq_has ls (zn Z) L → zW Z H locs κ (F0 (zm Z) pc ls st)
/-- the facts of a machine at a method: its code, its words, its class, its room -/
def ZF (Z : Zt) (cc : ByteArray) (Ts : List Cond) (own : String) (rm : Room) : Prop :=
  CallFix (zp Z) (zm Z) (zc Z) cc (zn Z) (zs Z) (za Z) Ts own ∧ va_K (zE Z).1 vwCl (ltys (zE Z)) (zs Z) ∧ (∀ q, (zH Z).size ≤ q → zA Z q) ∧ zR Z = rm ∧ (∀ k, k < 505 → zA Z ((zE Z).2.2 k))
section JR
variable {Z : Zt} {cc : ByteArray} {Ts : List Cond} {own : String} {rm : Room} {κ : Nat × Nat} {M : Mm} {pc : Nat} {L : List (Option Value)} {st : List Value}
theorem ZF.x (F : ZF Z cc Ts own rm) : (zp Z).tables.exec = Jvm.exec := F.1.1
theorem ZF.b (F : ZF Z cc Ts own rm) : (zc Z).code = cc := F.1.2.1
theorem ZF.ml (F : ZF Z cc Ts own rm) : (zc Z).maxLocals = zn Z := F.1.2.2.1
theorem ZF.ow (F : ZF Z cc Ts own rm) : (zs Z).vm.findClass own = some (zm Z).cls := F.1.2.2.2.1
theorem ZF.hts (F : ZF Z cc Ts own rm) : ∀ w ∈ Ts, w.before (za Z) (zs Z) = true := F.1.2.2.2.2
theorem ZF.K (F : ZF Z cc Ts own rm) : va_K (zE Z).1 vwCl (ltys (zE Z)) (zs Z) := F.2.1
theorem ZF.A (F : ZF Z cc Ts own rm) : ∀ q, (zH Z).size ≤ q → zA Z q := F.2.2.1
theorem ZF.R (F : ZF Z cc Ts own rm) : zR Z = rm := F.2.2.2.1
theorem ZF.N (F : ZF Z cc Ts own rm) : ∀ k, k < 505 → zA Z ((zE Z).2.2 k) := F.2.2.2.2
theorem jj_eqM {M2 : Mm} (h : M = M2) (k : JJ Z κ M2 pc L st) : JJ Z κ M pc L st := h ▸ k
theorem jj_eqL {L2 : List (Option Value)} (h : L = L2) (k : JJ Z κ M pc L2 st) : JJ Z κ M pc L st := h ▸ k
theorem jj_eqs {st2 : List Value} (h : st = st2) (k : JJ Z κ M pc L st2) : JJ Z κ M pc L st := h ▸ k
theorem jj_topi {x y : Int32} (h : x = y) (k : JJ Z κ M pc L (.int y :: st)) : JJ Z κ M pc L (.int x :: st) := h ▸ k
theorem jj_wid {κ2 : Nat × Nat} (h1 : κ.1 ≤ κ2.1) (h2 : κ.2 ≤ κ2.2) (k : JJ Z κ2 M pc L st) : JJ Z κ M pc L st := fun H locs ls a b c d => W.widen h1 h2 (k H locs ls a b c d)
/-- fewer known locals -/
theorem jj_less {L2 : List (Option Value)} (h : ∀ (i : Nat) (v : Value), L2[i]? = some (some v) → L[i]? = some (some v)) (k : JJ Z κ M pc L2 st) : JJ Z κ M pc L st := fun H locs ls a b c d => k H locs ls a b c ⟨d.1, d.2.1, fun i v hi => d.2.2 i v (h i v hi)⟩

theorem jj_iconst (F : ZF Z cc Ts own rm) {n : Int} {v : Int32} (hd : decode cc pc = .ok (.iconst n, 1)) (hv : Int32.ofInt n = v) (k : JJ Z κ M (pc + 1) L (.int v :: st)) : JJ Z κ M pc L (st) := fun H locs ls a b c d => lv_iconst F.x F.b hd hv (k H locs ls a b c d)
theorem jj_bipush (F : ZF Z cc Ts own rm) {n : Int} {v : Int32} (hd : decode cc pc = .ok (.bipush n, 2)) (hv : (Int8.ofInt n).toInt32 = v) (k : JJ Z κ M (pc + 2) L (.int v :: st)) : JJ Z κ M pc L (st) := fun H locs ls a b c d => lv_bipush F.x F.b hd hv (k H locs ls a b c d)
theorem jj_sipush (F : ZF Z cc Ts own rm) {n : Int} {v : Int32} (hd : decode cc pc = .ok (.sipush n, 3)) (hv : (Int16.ofInt n).toInt32 = v) (k : JJ Z κ M (pc + 3) L (.int v :: st)) : JJ Z κ M pc L (st) := fun H locs ls a b c d => lv_sipush F.x F.b hd hv (k H locs ls a b c d)
theorem jj_lconst (F : ZF Z cc Ts own rm) {n : Fin 2} {v : Int64} (hd : decode cc pc = .ok (.lconst n, 1)) (hv : Int64.ofNat (n : Nat) = v) (k : JJ Z κ M (pc + 1) L (.long v :: st)) : JJ Z κ M pc L (st) := fun H locs ls a b c d => lv_lconst F.x F.b hd hv (k H locs ls a b c d)
theorem jj_ldc (F : ZF Z cc Ts own rm) {index : Nat} {v : Int32} (hd : decode cc pc = .ok (.ldc index, 2)) (hc : (Jvm.Cond.constant own index v).before (za Z) (zs Z) = true) (k : JJ Z κ M (pc + 2) L (.int v :: st)) : JJ Z κ M pc L (st) := fun H locs ls a b c d => lv_ldc F.x F.b F.ow hc hd (k H locs ls a b c d)
theorem jj_ldc2 (F : ZF Z cc Ts own rm) {index : Nat} {v : Int64} (hd : decode cc pc = .ok (.ldc2_w index, 3)) (hc : (Jvm.Cond.constantLong own index v).before (za Z) (zs Z) = true) (k : JJ Z κ M (pc + 3) L (.long v :: st)) : JJ Z κ M pc L (st) := fun H locs ls a b c d => lv_ldc2 F.x F.b F.ow hc hd (k H locs ls a b c d)
theorem jj_dconst0 (F : ZF Z cc Ts own rm) (hd : decode cc pc = .ok (.dconst 0, 1)) (k : JJ Z κ M (pc + 1) L (.double (0 : UInt64) :: st)) : JJ Z κ M pc L (st) := fun H locs ls a b c d => lv_dconst0 F.x F.b hd (k H locs ls a b c d)
theorem jj_dconst1 (F : ZF Z cc Ts own rm) (hd : decode cc pc = .ok (.dconst 1, 1)) (k : JJ Z κ M (pc + 1) L (.double (0x3ff0000000000000 : UInt64) :: st)) : JJ Z κ M pc L (st) := fun H locs ls a b c d => lv_dconst1 F.x F.b hd (k H locs ls a b c d)
theorem jj_iload_n (F : ZF Z cc Ts own rm) {i : Fin 4} {x : Int32} (hd : decode cc pc = .ok (.iload_n i, 1)) (hl : L[(i : Nat)]? = some (some (.int x))) (k : JJ Z κ M (pc + 1) L (.int x :: st)) : JJ Z κ M pc L (st) := fun H locs ls a b c d => lv_iload_n F.x F.b hd rfl (d.2.2 _ _ hl) (k H locs ls a b c d)
theorem jj_iload (F : ZF Z cc Ts own rm) {i : Nat} {x : Int32} (hd : decode cc pc = .ok (.iload i, 2)) (hl : L[i]? = some (some (.int x))) (k : JJ Z κ M (pc + 2) L (.int x :: st)) : JJ Z κ M pc L (st) := fun H locs ls a b c d => lv_iload F.x F.b hd (d.2.2 _ _ hl) (k H locs ls a b c d)
theorem jj_lload_n (F : ZF Z cc Ts own rm) {i : Fin 4} {x : Int64} (hd : decode cc pc = .ok (.lload_n i, 1)) (hl : L[(i : Nat)]? = some (some (.long x))) (k : JJ Z κ M (pc + 1) L (.long x :: st)) : JJ Z κ M pc L (st) := fun H locs ls a b c d => lv_lload_n F.x F.b hd rfl (d.2.2 _ _ hl) (k H locs ls a b c d)
theorem jj_lload (F : ZF Z cc Ts own rm) {i : Nat} {x : Int64} (hd : decode cc pc = .ok (.lload i, 2)) (hl : L[i]? = some (some (.long x))) (k : JJ Z κ M (pc + 2) L (.long x :: st)) : JJ Z κ M pc L (st) := fun H locs ls a b c d => lv_lload F.x F.b hd (d.2.2 _ _ hl) (k H locs ls a b c d)
theorem jj_aload_n (F : ZF Z cc Ts own rm) {i : Fin 4} {x : Nat} (hd : decode cc pc = .ok (.aload_n i, 1)) (hl : L[(i : Nat)]? = some (some (.ref x))) (k : JJ Z κ M (pc + 1) L (.ref x :: st)) : JJ Z κ M pc L (st) := fun H locs ls a b c d => lv_aload_n F.x F.b hd rfl (d.2.2 _ _ hl) (k H locs ls a b c d)
theorem jj_aload (F : ZF Z cc Ts own rm) {i : Nat} {x : Nat} (hd : decode cc pc = .ok (.aload i, 2)) (hl : L[i]? = some (some (.ref x))) (k : JJ Z κ M (pc + 2) L (.ref x :: st)) : JJ Z κ M pc L (st) := fun H locs ls a b c d => lv_aload F.x F.b hd (d.2.2 _ _ hl) (k H locs ls a b c d)
theorem jj_dload_n (F : ZF Z cc Ts own rm) {i : Fin 4} {x : UInt64} (hd : decode cc pc = .ok (.dload_n i, 1)) (hl : L[(i : Nat)]? = some (some (.double x))) (k : JJ Z κ M (pc + 1) L (.double x :: st)) : JJ Z κ M pc L (st) := fun H locs ls a b c d => lv_dload_n F.x F.b hd rfl (d.2.2 _ _ hl) (k H locs ls a b c d)
theorem jj_dload (F : ZF Z cc Ts own rm) {i : Nat} {x : UInt64} (hd : decode cc pc = .ok (.dload i, 2)) (hl : L[i]? = some (some (.double x))) (k : JJ Z κ M (pc + 2) L (.double x :: st)) : JJ Z κ M pc L (st) := fun H locs ls a b c d => lv_dload F.x F.b hd (d.2.2 _ _ hl) (k H locs ls a b c d)
theorem jj_istore_n (F : ZF Z cc Ts own rm) {i : Fin 4} {x : Int32} (hd : decode cc pc = .ok (.istore_n i, 1)) (hn : (i : Nat) < zn Z) (k : JJ Z κ M (pc + 1) (lq_st L i (.int x)) st) : JJ Z κ M pc L (.int x :: st) := fun H locs ls a b c d => lv_istore_n F.x F.b hd rfl (lq_lv d) hn rfl (fun ls2 h2 => k H locs ls2 a b c (lq_store1 h2))
theorem jj_istore (F : ZF Z cc Ts own rm) {i : Nat} {x : Int32} (hd : decode cc pc = .ok (.istore i, 2)) (hn : (i : Nat) < zn Z) (k : JJ Z κ M (pc + 2) (lq_st L i (.int x)) st) : JJ Z κ M pc L (.int x :: st) := fun H locs ls a b c d => lv_istore F.x F.b hd (lq_lv d) hn rfl (fun ls2 h2 => k H locs ls2 a b c (lq_store1 h2))
theorem jj_lstore_n (F : ZF Z cc Ts own rm) {i : Fin 4} {x : Int64} (hd : decode cc pc = .ok (.lstore_n i, 1)) (hn : (i : Nat) + 1 < zn Z) (k : JJ Z κ M (pc + 1) (lq_no (lq_st L i (.long x)) (i + 1)) st) : JJ Z κ M pc L (.long x :: st) := fun H locs ls a b c d => lv_lstore_n F.x F.b hd rfl (lq_lv d) hn rfl (fun ls2 h2 => k H locs ls2 a b c (lq_store2 h2))
theorem jj_lstore (F : ZF Z cc Ts own rm) {i : Nat} {x : Int64} (hd : decode cc pc = .ok (.lstore i, 2)) (hn : (i : Nat) + 1 < zn Z) (k : JJ Z κ M (pc + 2) (lq_no (lq_st L i (.long x)) (i + 1)) st) : JJ Z κ M pc L (.long x :: st) := fun H locs ls a b c d => lv_lstore F.x F.b hd (lq_lv d) hn rfl (fun ls2 h2 => k H locs ls2 a b c (lq_store2 h2))
theorem jj_astore_n (F : ZF Z cc Ts own rm) {i : Fin 4} {x : Nat} (hd : decode cc pc = .ok (.astore_n i, 1)) (hn : (i : Nat) < zn Z) (k : JJ Z κ M (pc + 1) (lq_st L i (.ref x)) st) : JJ Z κ M pc L (.ref x :: st) := fun H locs ls a b c d => lv_astore_n F.x F.b hd rfl (lq_lv d) hn rfl (fun ls2 h2 => k H locs ls2 a b c (lq_store1 h2))
theorem jj_astore (F : ZF Z cc Ts own rm) {i : Nat} {x : Nat} (hd : decode cc pc = .ok (.astore i, 2)) (hn : (i : Nat) < zn Z) (k : JJ Z κ M (pc + 2) (lq_st L i (.ref x)) st) : JJ Z κ M pc L (.ref x :: st) := fun H locs ls a b c d => lv_astore F.x F.b hd (lq_lv d) hn rfl (fun ls2 h2 => k H locs ls2 a b c (lq_store1 h2))
theorem jj_dstore_n (F : ZF Z cc Ts own rm) {i : Fin 4} {x : UInt64} (hd : decode cc pc = .ok (.dstore_n i, 1)) (hn : (i : Nat) + 1 < zn Z) (k : JJ Z κ M (pc + 1) (lq_no (lq_st L i (.double x)) (i + 1)) st) : JJ Z κ M pc L (.double x :: st) := fun H locs ls a b c d => lv_dstore_n F.x F.b hd rfl (lq_lv d) hn rfl (fun ls2 h2 => k H locs ls2 a b c (lq_store2 h2))
theorem jj_dstore (F : ZF Z cc Ts own rm) {i : Nat} {x : UInt64} (hd : decode cc pc = .ok (.dstore i, 2)) (hn : (i : Nat) + 1 < zn Z) (k : JJ Z κ M (pc + 2) (lq_no (lq_st L i (.double x)) (i + 1)) st) : JJ Z κ M pc L (.double x :: st) := fun H locs ls a b c d => lv_dstore F.x F.b hd (lq_lv d) hn rfl (fun ls2 h2 => k H locs ls2 a b c (lq_store2 h2))
theorem jj_iinc (F : ZF Z cc Ts own rm) {i : Nat} {n : Int} {x v : Int32} (hd : decode cc pc = .ok (.iinc i n, 3)) (hl : L[i]? = some (some (.int x))) (hv : x + Int32.ofInt n = v) (hn : i < zn Z) (k : JJ Z κ M (pc + 3) (lq_st L i (.int v)) st) : JJ Z κ M pc L st := fun H locs ls a b c d => by
  obtain ⟨q, hq⟩ := List.getElem?_of_mem (lq_pr_in L 0 i (.int x) hl)
  rw [Nat.zero_add] at hq
  exact lv_iinc F.x F.b hd (lq_lv d) hq hv hn rfl (fun ls2 h2 => k H locs ls2 a b c (lq_store1 h2))
theorem jj_iadd (F : ZF Z cc Ts own rm) {x y : Int32} (hd : decode cc pc = .ok (.iadd, 1)) (k : JJ Z κ M (pc + 1) L (.int (x + y) :: st)) : JJ Z κ M pc L (.int y :: .int x :: st) := fun H locs ls a b c d => lv_iadd F.x F.b hd (k H locs ls a b c d)
theorem jj_isub (F : ZF Z cc Ts own rm) {x y : Int32} (hd : decode cc pc = .ok (.isub, 1)) (k : JJ Z κ M (pc + 1) L (.int (x - y) :: st)) : JJ Z κ M pc L (.int y :: .int x :: st) := fun H locs ls a b c d => lv_isub F.x F.b hd (k H locs ls a b c d)
theorem jj_imul (F : ZF Z cc Ts own rm) {x y : Int32} (hd : decode cc pc = .ok (.imul, 1)) (k : JJ Z κ M (pc + 1) L (.int (x * y) :: st)) : JJ Z κ M pc L (.int y :: .int x :: st) := fun H locs ls a b c d => lv_imul F.x F.b hd (k H locs ls a b c d)
theorem jj_iand (F : ZF Z cc Ts own rm) {x y : Int32} (hd : decode cc pc = .ok (.iand, 1)) (k : JJ Z κ M (pc + 1) L (.int (x &&& y) :: st)) : JJ Z κ M pc L (.int y :: .int x :: st) := fun H locs ls a b c d => lv_iand F.x F.b hd (k H locs ls a b c d)
theorem jj_ior (F : ZF Z cc Ts own rm) {x y : Int32} (hd : decode cc pc = .ok (.ior, 1)) (k : JJ Z κ M (pc + 1) L (.int (x ||| y) :: st)) : JJ Z κ M pc L (.int y :: .int x :: st) := fun H locs ls a b c d => lv_ior F.x F.b hd (k H locs ls a b c d)
theorem jj_ixor (F : ZF Z cc Ts own rm) {x y : Int32} (hd : decode cc pc = .ok (.ixor, 1)) (k : JJ Z κ M (pc + 1) L (.int (x ^^^ y) :: st)) : JJ Z κ M pc L (.int y :: .int x :: st) := fun H locs ls a b c d => lv_ixor F.x F.b hd (k H locs ls a b c d)
theorem jj_ishl (F : ZF Z cc Ts own rm) {x y : Int32} (hd : decode cc pc = .ok (.ishl, 1)) (k : JJ Z κ M (pc + 1) L (.int (x <<< (y &&& 31)) :: st)) : JJ Z κ M pc L (.int y :: .int x :: st) := fun H locs ls a b c d => lv_ishl F.x F.b hd (k H locs ls a b c d)
theorem jj_ishr (F : ZF Z cc Ts own rm) {x y : Int32} (hd : decode cc pc = .ok (.ishr, 1)) (k : JJ Z κ M (pc + 1) L (.int (x >>> (y &&& 31)) :: st)) : JJ Z κ M pc L (.int y :: .int x :: st) := fun H locs ls a b c d => lv_ishr F.x F.b hd (k H locs ls a b c d)
theorem jj_idiv (F : ZF Z cc Ts own rm) {x y : Int32} (hd : decode cc pc = .ok (.idiv, 1)) (hne : ¬ y = 0) (k : JJ Z κ M (pc + 1) L (.int (x / y) :: st)) : JJ Z κ M pc L (.int y :: .int x :: st) := fun H locs ls a b c d => lv_idiv F.x F.b hd hne (k H locs ls a b c d)
theorem jj_irem (F : ZF Z cc Ts own rm) {x y : Int32} (hd : decode cc pc = .ok (.irem, 1)) (hne : ¬ y = 0) (k : JJ Z κ M (pc + 1) L (.int (x - x / y * y) :: st)) : JJ Z κ M pc L (.int y :: .int x :: st) := fun H locs ls a b c d => lv_irem F.x F.b hd hne (k H locs ls a b c d)
theorem jj_ineg (F : ZF Z cc Ts own rm) {x : Int32} (hd : decode cc pc = .ok (.ineg, 1)) (k : JJ Z κ M (pc + 1) L (.int (-x) :: st)) : JJ Z κ M pc L (.int x :: st) := fun H locs ls a b c d => lv_ineg F.x F.b hd (k H locs ls a b c d)
theorem jj_ladd (F : ZF Z cc Ts own rm) {x y : Int64} (hd : decode cc pc = .ok (.ladd, 1)) (k : JJ Z κ M (pc + 1) L (.long (x + y) :: st)) : JJ Z κ M pc L (.long y :: .long x :: st) := fun H locs ls a b c d => lv_ladd F.x F.b hd (k H locs ls a b c d)
theorem jj_lmul (F : ZF Z cc Ts own rm) {x y : Int64} (hd : decode cc pc = .ok (.lmul, 1)) (k : JJ Z κ M (pc + 1) L (.long (x * y) :: st)) : JJ Z κ M pc L (.long y :: .long x :: st) := fun H locs ls a b c d => lv_lmul F.x F.b hd (k H locs ls a b c d)
theorem jj_land (F : ZF Z cc Ts own rm) {x y : Int64} (hd : decode cc pc = .ok (.land, 1)) (k : JJ Z κ M (pc + 1) L (.long (x &&& y) :: st)) : JJ Z κ M pc L (.long y :: .long x :: st) := fun H locs ls a b c d => lv_land F.x F.b hd (k H locs ls a b c d)
theorem jj_lor (F : ZF Z cc Ts own rm) {x y : Int64} (hd : decode cc pc = .ok (.lor, 1)) (k : JJ Z κ M (pc + 1) L (.long (x ||| y) :: st)) : JJ Z κ M pc L (.long y :: .long x :: st) := fun H locs ls a b c d => lv_lor F.x F.b hd (k H locs ls a b c d)
theorem jj_lxor (F : ZF Z cc Ts own rm) {x y : Int64} (hd : decode cc pc = .ok (.lxor, 1)) (k : JJ Z κ M (pc + 1) L (.long (x ^^^ y) :: st)) : JJ Z κ M pc L (.long y :: .long x :: st) := fun H locs ls a b c d => lv_lxor F.x F.b hd (k H locs ls a b c d)
theorem jj_lshl (F : ZF Z cc Ts own rm) {x : Int64} {y : Int32} (hd : decode cc pc = .ok (.lshl, 1)) (k : JJ Z κ M (pc + 1) L (.long (x <<< (y.toInt64 &&& 63)) :: st)) : JJ Z κ M pc L (.int y :: .long x :: st) := fun H locs ls a b c d => lv_lshl F.x F.b hd rfl (k H locs ls a b c d)
theorem jj_lushr (F : ZF Z cc Ts own rm) {x : Int64} {y : Int32} (hd : decode cc pc = .ok (.lushr, 1)) (k : JJ Z κ M (pc + 1) L (.long ((x.toUInt64 >>> (y.toInt64.toUInt64 &&& Int64.toUInt64 63)).toInt64) :: st)) : JJ Z κ M pc L (.int y :: .long x :: st) := fun H locs ls a b c d => lv_lushr F.x F.b hd rfl (k H locs ls a b c d)
theorem jj_i2l (F : ZF Z cc Ts own rm) {x : Int32} (hd : decode cc pc = .ok (.i2l, 1)) (k : JJ Z κ M (pc + 1) L (.long x.toInt64 :: st)) : JJ Z κ M pc L (.int x :: st) := fun H locs ls a b c d => lv_i2l F.x F.b hd rfl (k H locs ls a b c d)
theorem jj_l2i (F : ZF Z cc Ts own rm) {x : Int64} (hd : decode cc pc = .ok (.l2i, 1)) (k : JJ Z κ M (pc + 1) L (.int x.toInt32 :: st)) : JJ Z κ M pc L (.long x :: st) := fun H locs ls a b c d => lv_l2i F.x F.b hd rfl (k H locs ls a b c d)
theorem jj_i2d (F : ZF Z cc Ts own rm) {x : Int32} (hd : decode cc pc = .ok (.i2d, 1)) (k : JJ Z κ M (pc + 1) L (.double (FP.i2d x) :: st)) : JJ Z κ M pc L (.int x :: st) := fun H locs ls a b c d => lv_i2d F.x F.b hd (k H locs ls a b c d)
theorem jj_lcmp (F : ZF Z cc Ts own rm) {x y : Int64} (hd : decode cc pc = .ok (.lcmp, 1)) (k : JJ Z κ M (pc + 1) L (.int (lg_cmp x y) :: st)) : JJ Z κ M pc L (.long y :: .long x :: st) := fun H locs ls a b c d => W.lcmp F.x F.b hd (k H locs ls a b c d)
theorem jj_dcmp (F : ZF Z cc Ts own rm) {x y : UInt64} {op : CmpOp} (hd : decode cc pc = .ok (.dcmp op, 1)) (k : JJ Z κ M (pc + 1) L (.int (Op.cmpValue (FP.dcmp x y) op) :: st)) : JJ Z κ M pc L (.double y :: .double x :: st) := fun H locs ls a b c d => lv_dcmp F.x F.b hd (k H locs ls a b c d)
theorem jj_dup (F : ZF Z cc Ts own rm) {v : Value} (hd : decode cc pc = .ok (.dup, 1)) (hv : v.category = 1) (k : JJ Z κ M (pc + 1) L (v :: v :: st)) : JJ Z κ M pc L (v :: st) := fun H locs ls a b c d => lv_dup F.x F.b hd hv (k H locs ls a b c d)
theorem jj_pop (F : ZF Z cc Ts own rm) {v : Value} (hd : decode cc pc = .ok (.pop, 1)) (hv : v.category = 1) (k : JJ Z κ M (pc + 1) L (st)) : JJ Z κ M pc L (v :: st) := fun H locs ls a b c d => lv_pop F.x F.b hd hv (k H locs ls a b c d)
theorem jj_dup2 (F : ZF Z cc Ts own rm) {v u : Value} (hd : decode cc pc = .ok (.dup2, 1)) (hv : v.category = 1) (hu : u.category = 1) (k : JJ Z κ M (pc + 1) L (v :: u :: v :: u :: st)) : JJ Z κ M pc L (v :: u :: st) := fun H locs ls a b c d => lv_dup2_11 F.x F.b hd hv hu (k H locs ls a b c d)
theorem jj_goto (F : ZF Z cc Ts own rm) {off : Int} {tgt : Nat} (hd : decode cc pc = .ok (.goto off, 3)) (ht : (pc : Int) + off = (tgt : Int)) (k : JJ Z κ M tgt L st) : JJ Z κ M pc L st := fun H locs ls a b c d => lv_goto F.x F.b hd ht (k H locs ls a b c d)
theorem jj_icmp_eq (F : ZF Z cc Ts own rm) {x y : Int32} {off : Int} {tgt : Nat} (hd : decode cc pc = .ok (.if_icmp .eq off, 3)) (ht : (pc : Int) + off = (tgt : Int)) (kt : x = y → JJ Z κ M tgt L st) (kf : ¬ x = y → JJ Z κ M (pc + 3) L st) : JJ Z κ M pc L (.int y :: .int x :: st) := fun H locs ls a b c d => lv_icmp_eq F.x F.b hd ht (fun h => kt h H locs ls a b c d) (fun h => kf h H locs ls a b c d)
theorem jj_if_eq (F : ZF Z cc Ts own rm) {x : Int32} {off : Int} {tgt : Nat} (hd : decode cc pc = .ok (.ifCond .eq off, 3)) (ht : (pc : Int) + off = (tgt : Int)) (kt : x = 0 → JJ Z κ M tgt L st) (kf : ¬ x = 0 → JJ Z κ M (pc + 3) L st) : JJ Z κ M pc L (.int x :: st) := fun H locs ls a b c d => lv_if_eq F.x F.b hd ht (fun h => kt h H locs ls a b c d) (fun h => kf h H locs ls a b c d)
theorem jj_icmp_ne (F : ZF Z cc Ts own rm) {x y : Int32} {off : Int} {tgt : Nat} (hd : decode cc pc = .ok (.if_icmp .ne off, 3)) (ht : (pc : Int) + off = (tgt : Int)) (kt : ¬ x = y → JJ Z κ M tgt L st) (kf : x = y → JJ Z κ M (pc + 3) L st) : JJ Z κ M pc L (.int y :: .int x :: st) := fun H locs ls a b c d => lv_icmp_ne F.x F.b hd ht (fun h => kt h H locs ls a b c d) (fun h => kf h H locs ls a b c d)
theorem jj_if_ne (F : ZF Z cc Ts own rm) {x : Int32} {off : Int} {tgt : Nat} (hd : decode cc pc = .ok (.ifCond .ne off, 3)) (ht : (pc : Int) + off = (tgt : Int)) (kt : ¬ x = 0 → JJ Z κ M tgt L st) (kf : x = 0 → JJ Z κ M (pc + 3) L st) : JJ Z κ M pc L (.int x :: st) := fun H locs ls a b c d => lv_if_ne F.x F.b hd ht (fun h => kt h H locs ls a b c d) (fun h => kf h H locs ls a b c d)
theorem jj_icmp_lt (F : ZF Z cc Ts own rm) {x y : Int32} {off : Int} {tgt : Nat} (hd : decode cc pc = .ok (.if_icmp .lt off, 3)) (ht : (pc : Int) + off = (tgt : Int)) (kt : x < y → JJ Z κ M tgt L st) (kf : ¬ x < y → JJ Z κ M (pc + 3) L st) : JJ Z κ M pc L (.int y :: .int x :: st) := fun H locs ls a b c d => lv_icmp_lt F.x F.b hd ht (fun h => kt h H locs ls a b c d) (fun h => kf h H locs ls a b c d)
theorem jj_if_lt (F : ZF Z cc Ts own rm) {x : Int32} {off : Int} {tgt : Nat} (hd : decode cc pc = .ok (.ifCond .lt off, 3)) (ht : (pc : Int) + off = (tgt : Int)) (kt : x < 0 → JJ Z κ M tgt L st) (kf : ¬ x < 0 → JJ Z κ M (pc + 3) L st) : JJ Z κ M pc L (.int x :: st) := fun H locs ls a b c d => lv_if_lt F.x F.b hd ht (fun h => kt h H locs ls a b c d) (fun h => kf h H locs ls a b c d)
theorem jj_icmp_ge (F : ZF Z cc Ts own rm) {x y : Int32} {off : Int} {tgt : Nat} (hd : decode cc pc = .ok (.if_icmp .ge off, 3)) (ht : (pc : Int) + off = (tgt : Int)) (kt : y ≤ x → JJ Z κ M tgt L st) (kf : ¬ y ≤ x → JJ Z κ M (pc + 3) L st) : JJ Z κ M pc L (.int y :: .int x :: st) := fun H locs ls a b c d => lv_icmp_ge F.x F.b hd ht (fun h => kt h H locs ls a b c d) (fun h => kf h H locs ls a b c d)
theorem jj_if_ge (F : ZF Z cc Ts own rm) {x : Int32} {off : Int} {tgt : Nat} (hd : decode cc pc = .ok (.ifCond .ge off, 3)) (ht : (pc : Int) + off = (tgt : Int)) (kt : 0 ≤ x → JJ Z κ M tgt L st) (kf : ¬ 0 ≤ x → JJ Z κ M (pc + 3) L st) : JJ Z κ M pc L (.int x :: st) := fun H locs ls a b c d => lv_if_ge F.x F.b hd ht (fun h => kt h H locs ls a b c d) (fun h => kf h H locs ls a b c d)
theorem jj_icmp_gt (F : ZF Z cc Ts own rm) {x y : Int32} {off : Int} {tgt : Nat} (hd : decode cc pc = .ok (.if_icmp .gt off, 3)) (ht : (pc : Int) + off = (tgt : Int)) (kt : y < x → JJ Z κ M tgt L st) (kf : ¬ y < x → JJ Z κ M (pc + 3) L st) : JJ Z κ M pc L (.int y :: .int x :: st) := fun H locs ls a b c d => lv_icmp_gt F.x F.b hd ht (fun h => kt h H locs ls a b c d) (fun h => kf h H locs ls a b c d)
theorem jj_if_gt (F : ZF Z cc Ts own rm) {x : Int32} {off : Int} {tgt : Nat} (hd : decode cc pc = .ok (.ifCond .gt off, 3)) (ht : (pc : Int) + off = (tgt : Int)) (kt : 0 < x → JJ Z κ M tgt L st) (kf : ¬ 0 < x → JJ Z κ M (pc + 3) L st) : JJ Z κ M pc L (.int x :: st) := fun H locs ls a b c d => lv_if_gt F.x F.b hd ht (fun h => kt h H locs ls a b c d) (fun h => kf h H locs ls a b c d)
theorem jj_icmp_le (F : ZF Z cc Ts own rm) {x y : Int32} {off : Int} {tgt : Nat} (hd : decode cc pc = .ok (.if_icmp .le off, 3)) (ht : (pc : Int) + off = (tgt : Int)) (kt : x ≤ y → JJ Z κ M tgt L st) (kf : ¬ x ≤ y → JJ Z κ M (pc + 3) L st) : JJ Z κ M pc L (.int y :: .int x :: st) := fun H locs ls a b c d => lv_icmp_le F.x F.b hd ht (fun h => kt h H locs ls a b c d) (fun h => kf h H locs ls a b c d)
theorem jj_if_le (F : ZF Z cc Ts own rm) {x : Int32} {off : Int} {tgt : Nat} (hd : decode cc pc = .ok (.ifCond .le off, 3)) (ht : (pc : Int) + off = (tgt : Int)) (kt : x ≤ 0 → JJ Z κ M tgt L st) (kf : ¬ x ≤ 0 → JJ Z κ M (pc + 3) L st) : JJ Z κ M pc L (.int x :: st) := fun H locs ls a b c d => lv_if_le F.x F.b hd ht (fun h => kt h H locs ls a b c d) (fun h => kf h H locs ls a b c d)
end JR
/-! the cells by their numbers -/
def kdOk (q : Kd) : Bool := match q with
  | .inl (ci, fl) => decide (ci < 10) && decide ((vwCl.map (fun q => q.2.2))[ci]? = some fl.length)
  | .inr (t, n, _, _) => decide (t < 6) && decide (n ≤ 256)
theorem kd_lt505 : ∀ k, k < 505 → kdOk (kd k) = true := by decide +kernel
theorem kd_big {k : Nat} (h : ¬ k < 505) : kd k = .inr (0, 0, 0, 0) := by
  unfold kd
  rw [if_neg (by omega), if_neg (by omega), if_neg (by omega), if_neg (by omega), if_neg (by omega), if_neg (by omega), if_neg (by omega), if_neg (by omega), if_neg (by omega)]
  rw [List.getD_eq_getElem?_getD, List.getElem?_eq_none (by show 27 ≤ _; omega)]
  rfl
theorem kd_obj {k ci : Nat} {fl : List Nat} (h : kd k = .inl (ci, fl)) : k < 505 := by
  by_cases hk : k < 505
  · exact hk
  · rw [kd_big hk] at h; cases h
theorem kd_arr {k t n x y a : Nat} (h : kd k = .inr (t, n, x, y)) (ha : a < n) : k < 505 ∧ n ≤ 256 := by
  by_cases hk : k < 505
  · have h2 := kd_lt505 k hk
    rw [h] at h2
    simp only [kdOk, Bool.and_eq_true, decide_eq_true_eq] at h2
    exact ⟨hk, h2.2⟩
  · rw [kd_big hk] at h
    cases h
    omega
theorem lc_obj (E : Ee) (M : Mm) {k ci : Nat} {fl : List Nat} (h : kd k = .inl (ci, fl)) : lc E M k = .inr (ci, lf E M k 0 fl) := by unfold lc; rw [h]; rfl
theorem lc_i (E : Ee) (M : Mm) {k n x y : Nat} (h : kd k = .inr (0, n, x, y)) : lc E M k = .inl (E.2.1.1, n, .inl (M.1 k)) := by unfold lc; rw [h]; rfl
theorem lc_z (E : Ee) (M : Mm) {k n x y : Nat} (h : kd k = .inr (1, n, x, y)) : lc E M k = .inl (E.2.1.2.1, n, .inl (M.1 k)) := by unfold lc; rw [h]; rfl
theorem lc_l (E : Ee) (M : Mm) {k n x y : Nat} (h : kd k = .inr (2, n, x, y)) : lc E M k = .inl (E.2.1.2.2.1, n, .inr (.inl (M.2 k))) := by unfold lc; rw [h]; rfl
theorem lc_r (E : Ee) (M : Mm) {k t n x y : Nat} (h : kd k = .inr (t + 3, n, x, y)) : lc E M k = .inl (E.2.1.2.2.2 t, n, .inr (.inr (.inr (.inr (fun i => some (E.2.2 (x + y * i))))))) := by unfold lc; rw [h]; rfl
theorem lw_at (E : Ee) (M : Mm) {k : Nat} {e : va_E} (hk : k < 505) (h : lc E M k = e) : (lw E M)[k]? = some (E.2.2 k, e) := by rw [lw_get E M hk, h]
/-- a field may be read here -/
def FG (Z : Zt) (idx ci j : Nat) : Prop := ∃ (C : String) (T : u_T) (N : Nat) (own : String) (Ts : List Cond), vwCl[ci]? = some (C, T, N) ∧ j < N ∧ (∀ w ∈ Ts, w.before (za Z) (zs Z) = true) ∧ (∀ w ∈ u_ws C T N, w ∈ Ts) ∧ (zs Z).vm.findClass own = some (zm Z).cls ∧ (T j).1 = C ∧ (Cond.fieldLink own idx C (T j).2.1 (T j).2.2.1).before (za Z) (zs Z) = true
/-- a field may be written here -/
def FP (Z : Zt) (idx ci j : Nat) (ty : FieldType) : Prop := ∃ (C : String) (T : u_T) (N : Nat) (own : String) (Ts : List Cond) (ty0 : Nat → FieldType), vwCl[ci]? = some (C, T, N) ∧ j < N ∧ (∀ w ∈ Ts, w.before (za Z) (zs Z) = true) ∧ (∀ w ∈ u_ws C T N, w ∈ Ts) ∧ (zs Z).vm.findClass own = some (zm Z).cls ∧ (T j).1 = C ∧ (Cond.fieldLink own idx C (T j).2.1 (T j).2.2.1).before (za Z) (zs Z) = true ∧ (∀ k, k < N → parseFieldDescriptor (T k).2.2.1 = some (ty0 k)) ∧ (∀ a, a < N → ∀ b, b < N → a ≠ b → (T a).2.1 ≠ (T b).2.1) ∧ (T j).2.2.2 = false ∧ parseFieldDescriptor (T j).2.2.1 = some ty
section JH
variable {Z : Zt} {cc : ByteArray} {Ts : List Cond} {own : String} {rm : Room} {κ : Nat × Nat} {M : Mm} {pc : Nat} {L : List (Option Value)} {st : List Value}
theorem fg_mk (F : ZF Z cc Ts own rm) {idx ci j : Nat} {C : String} {T : u_T} {N : Nat} (hin : ∀ w ∈ u_ws C T N, w ∈ Ts) (hc : vwCl[ci]? = some (C, T, N)) (hj : j < N) (h1 : (T j).1 = C) (hl : Cond.fieldLink own idx C (T j).2.1 (T j).2.2.1 ∈ Ts) : FG Z idx ci j := ⟨C, T, N, own, Ts, hc, hj, F.hts, hin, F.ow, h1, F.hts _ hl⟩
theorem fp_mk (F : ZF Z cc Ts own rm) {idx ci j : Nat} {C : String} {T : u_T} {N : Nat} {ty : FieldType} (hin : ∀ w ∈ u_ws C T N, w ∈ Ts) {ty0 : Nat → FieldType} (hty : ∀ k, k < N → parseFieldDescriptor (T k).2.2.1 = some (ty0 k)) (hnm : ∀ a, a < N → ∀ b, b < N → a ≠ b → (T a).2.1 ≠ (T b).2.1) (hc : vwCl[ci]? = some (C, T, N)) (hj : j < N) (h1 : (T j).1 = C) (hl : Cond.fieldLink own idx C (T j).2.1 (T j).2.2.1 ∈ Ts) (hf : (T j).2.2.2 = false) (hd : parseFieldDescriptor (T j).2.2.1 = some ty) : FP Z idx ci j ty := ⟨C, T, N, own, Ts, ty0, hc, hj, F.hts, hin, F.ow, h1, F.hts _ hl, hty, hnm, hf, hd⟩
theorem jj_get (F : ZF Z cc Ts own rm) {idx ci j k : Nat} {fl : List Nat} (g : FG Z idx ci j) (hkd : kd k = .inl (ci, fl)) {v : Value} (hv : (lf (zE Z) M k 0 fl)[j]? = some v) (hd : decode cc pc = .ok (.getfield idx, 3)) (kk : JJ Z κ M (pc + 3) L (v :: st)) : JJ Z κ M pc L (.ref ((zE Z).2.2 k) :: st) := fun H locs ls a b c d => by
  obtain ⟨C, T, N, own, Ts, hc, hj, hts, hin, hown, h1, hl⟩ := g
  exact va_get F.x F.b hts hin hown F.K a k (lw_at _ _ (kd_obj hkd) (lc_obj _ _ hkd)) hc j hj hl (fun x hx => by rw [h1] at hx; exact hx) hv hd (kk H locs ls a b c d)
theorem jj_geti (F : ZF Z cc Ts own rm) {idx ci j k : Nat} {fl : List Nat} (g : FG Z idx ci j) (hkd : kd k = .inl (ci, fl)) (hj : fl[j]? = some 0) (hd : decode cc pc = .ok (.getfield idx, 3)) (kk : JJ Z κ M (pc + 3) L (.int (M.1 k j) :: st)) : JJ Z κ M pc L (.ref ((zE Z).2.2 k) :: st) :=
  jj_get F g hkd (by have := lf_get (zE Z) M k fl 0 j 0 hj; simpa using this) hd kk
theorem jj_getl (F : ZF Z cc Ts own rm) {idx ci j k : Nat} {fl : List Nat} (g : FG Z idx ci j) (hkd : kd k = .inl (ci, fl)) (hj : fl[j]? = some 1) (hd : decode cc pc = .ok (.getfield idx, 3)) (kk : JJ Z κ M (pc + 3) L (.long (M.2 k j) :: st)) : JJ Z κ M pc L (.ref ((zE Z).2.2 k) :: st) :=
  jj_get F g hkd (by have := lf_get (zE Z) M k fl 0 j 1 hj; simpa using this) hd kk
theorem jj_getr (F : ZF Z cc Ts own rm) {idx ci j k r : Nat} {fl : List Nat} (g : FG Z idx ci j) (hkd : kd k = .inl (ci, fl)) (hj : fl[j]? = some (r + 2)) (hd : decode cc pc = .ok (.getfield idx, 3)) (kk : JJ Z κ M (pc + 3) L (.ref ((zE Z).2.2 r) :: st)) : JJ Z κ M pc L (.ref ((zE Z).2.2 k) :: st) :=
  jj_get F g hkd (by have := lf_get (zE Z) M k fl 0 j (r + 2) hj; simpa using this) hd kk
theorem jj_puti0 (F : ZF Z cc Ts own rm) {idx ci j k : Nat} {fl : List Nat} {ty : FieldType} {x : Int32} (g : FP Z idx ci j ty) (hkd : kd k = .inl (ci, fl)) (hj : fl[j]? = some 0) (hn : narrow ty (.int x) = .int x) (hfit : fits ty (.int x) = true) (hd : decode cc pc = .ok (.putfield idx, 3)) (kk : JJ Z κ (wA M k (upd (M.1 k) j x)) (pc + 3) L st) : JJ Z κ M pc L (.int x :: .ref ((zE Z).2.2 k) :: st) := fun H locs ls a b c d => by
  obtain ⟨C, T, N, own, Ts, ty0, hc, hjN, hts, hin, hown, h1, hl, hty, hnm, hf, hpd⟩ := g
  refine va_put F.x F.b hts hin ty0 hty hnm hown F.K a b c k (lw_at _ _ (kd_obj hkd) (lc_obj _ _ hkd)) hc j hjN hl (fun x hx => by rw [h1] at hx; exact hx) hf hpd hn hfit (by rw [lf_len]; exact (List.getElem?_eq_some_iff.mp hj).1) hd (fun H1 locs1 a1 b1 c1 => ?_)
  have e : (lw (zE Z) M).set k ((zE Z).2.2 k, .inr (ci, (lf (zE Z) M k 0 fl).set j (.int x))) = lw (zE Z) (wA M k (upd (M.1 k) j x)) := lw_wA _ _ (by
    rw [lc_obj _ _ hkd, lf_setI (zE Z) M k x fl 0 j hj, Nat.zero_add])
  rw [e] at a1 b1
  exact kk H1 locs1 ls a1 b1 c1 d
theorem jj_puti (F : ZF Z cc Ts own rm) {idx ci j k : Nat} {fl : List Nat} {x : Int32} (g : FP Z idx ci j .int) (hkd : kd k = .inl (ci, fl)) (hj : fl[j]? = some 0) (hd : decode cc pc = .ok (.putfield idx, 3)) (kk : JJ Z κ (wA M k (upd (M.1 k) j x)) (pc + 3) L st) : JJ Z κ M pc L (.int x :: .ref ((zE Z).2.2 k) :: st) := jj_puti0 F g hkd hj rfl rfl hd kk
theorem jj_putz (F : ZF Z cc Ts own rm) {idx ci j k : Nat} {fl : List Nat} {x : Int32} (g : FP Z idx ci j .boolean) (hkd : kd k = .inl (ci, fl)) (hj : fl[j]? = some 0) (hx : x = 0 ∨ x = 1) (hd : decode cc pc = .ok (.putfield idx, 3)) (kk : JJ Z κ (wA M k (upd (M.1 k) j x)) (pc + 3) L st) : JJ Z κ M pc L (.int x :: .ref ((zE Z).2.2 k) :: st) := jj_puti0 F g hkd hj (by rcases hx with rfl | rfl <;> rfl) (by rcases hx with rfl | rfl <;> rfl) hd kk
theorem jj_putl (F : ZF Z cc Ts own rm) {idx ci j k : Nat} {fl : List Nat} {x : Int64} (g : FP Z idx ci j .long) (hkd : kd k = .inl (ci, fl)) (hj : fl[j]? = some 1) (hd : decode cc pc = .ok (.putfield idx, 3)) (kk : JJ Z κ (wL M k (vp_updL (M.2 k) j x)) (pc + 3) L st) : JJ Z κ M pc L (.long x :: .ref ((zE Z).2.2 k) :: st) := fun H locs ls a b c d => by
  obtain ⟨C, T, N, own, Ts, ty0, hc, hjN, hts, hin, hown, h1, hl, hty, hnm, hf, hpd⟩ := g
  refine va_put F.x F.b hts hin ty0 hty hnm hown F.K a b c k (lw_at _ _ (kd_obj hkd) (lc_obj _ _ hkd)) hc j hjN hl (fun x hx => by rw [h1] at hx; exact hx) hf hpd rfl rfl (by rw [lf_len]; exact (List.getElem?_eq_some_iff.mp hj).1) hd (fun H1 locs1 a1 b1 c1 => ?_)
  have e : (lw (zE Z) M).set k ((zE Z).2.2 k, .inr (ci, (lf (zE Z) M k 0 fl).set j (.long x))) = lw (zE Z) (wL M k (vp_updL (M.2 k) j x)) := lw_wL _ _ (by
    rw [lc_obj _ _ hkd, lf_setL (zE Z) M k x fl 0 j hj, Nat.zero_add])
  rw [e] at a1 b1
  exact kk H1 locs1 ls a1 b1 c1 d
theorem vp_inA {i : Int32} {a n : Nat} (hi : i = nI a) (ha : a < n) (hn : n ≤ 256) : vp_in i n ∧ i.toNatClampNeg = a := by
  subst hi
  exact ⟨vp_in_nI ha (by omega), nI_clamp (by omega)⟩

theorem jj_iald (F : ZF Z cc Ts own rm) {k n x0 y0 : Nat} {i : Int32} {q : Nat} (hkd : kd k = .inr (0, n, x0, y0)) (hi : i = nI q) (hq : q < n) (hd : decode cc pc = .ok (.iaload, 1)) (kk : JJ Z κ M (pc + 1) L (.int (M.1 k q) :: st)) : JJ Z κ M pc L (.int i :: .ref ((zE Z).2.2 k) :: st) := fun H locs ls a b c d => by
  obtain ⟨h1, h2⟩ := kd_arr hkd hq
  obtain ⟨h3, h4⟩ := vp_inA hi hq h2
  refine va_iald F.x F.b F.K a k 0 (lw_at _ _ h1 (lc_i _ _ hkd)) rfl h3 hd ?_
  rw [h4]
  exact kk H locs ls a b c d
theorem jj_iast (F : ZF Z cc Ts own rm) {k n x0 y0 : Nat} {i : Int32} {q : Nat} {x : Int32} (hkd : kd k = .inr (0, n, x0, y0)) (hi : i = nI q) (hq : q < n) (hd : decode cc pc = .ok (.iastore, 1)) (kk : JJ Z κ (wA M k (upd (M.1 k) q x)) (pc + 1) L st) : JJ Z κ M pc L (.int x :: .int i :: .ref ((zE Z).2.2 k) :: st) := fun H locs ls a b c d => by
  obtain ⟨h1, h2⟩ := kd_arr hkd hq
  obtain ⟨h3, h4⟩ := vp_inA hi hq h2
  refine va_iast F.x F.b F.K a b c k 0 (lw_at _ _ h1 (lc_i _ _ hkd)) rfl h3 hd (fun H1 locs1 a1 b1 c1 => ?_)
  rw [h4] at a1 b1
  rw [lw_wA (zE Z) M (g := upd (M.1 k) q x) (by rw [lc_i _ _ hkd, wA_s])] at a1 b1
  exact kk H1 locs1 ls a1 b1 c1 d
theorem jj_zald (F : ZF Z cc Ts own rm) {k n x0 y0 : Nat} {i : Int32} {q : Nat} (hkd : kd k = .inr (1, n, x0, y0)) (hi : i = nI q) (hq : q < n) (hd : decode cc pc = .ok (.baload, 1)) (kk : JJ Z κ M (pc + 1) L (.int (M.1 k q) :: st)) : JJ Z κ M pc L (.int i :: .ref ((zE Z).2.2 k) :: st) := fun H locs ls a b c d => by
  obtain ⟨h1, h2⟩ := kd_arr hkd hq
  obtain ⟨h3, h4⟩ := vp_inA hi hq h2
  refine va_zald F.x F.b F.K a k 1 (lw_at _ _ h1 (lc_z _ _ hkd)) rfl h3 hd ?_
  rw [h4]
  exact kk H locs ls a b c d
theorem jj_zast (F : ZF Z cc Ts own rm) {k n x0 y0 : Nat} {i : Int32} {q : Nat} {x : Int32} (hkd : kd k = .inr (1, n, x0, y0)) (hi : i = nI q) (hq : q < n) (hx : x = 0 ∨ x = 1) (hd : decode cc pc = .ok (.bastore, 1)) (kk : JJ Z κ (wA M k (upd (M.1 k) q x)) (pc + 1) L st) : JJ Z κ M pc L (.int x :: .int i :: .ref ((zE Z).2.2 k) :: st) := fun H locs ls a b c d => by
  obtain ⟨h1, h2⟩ := kd_arr hkd hq
  obtain ⟨h3, h4⟩ := vp_inA hi hq h2
  refine va_zast F.x F.b F.K a b c k 1 (lw_at _ _ h1 (lc_z _ _ hkd)) rfl h3 hd (fun H1 locs1 a1 b1 c1 => ?_)
  rw [h4] at a1 b1
  have hz : vp_nar .boolean x = x := by rcases hx with rfl | rfl <;> rfl
  rw [hz] at a1 b1
  rw [lw_wA (zE Z) M (g := upd (M.1 k) q x) (by rw [lc_z _ _ hkd, wA_s])] at a1 b1
  exact kk H1 locs1 ls a1 b1 c1 d
theorem jj_lald (F : ZF Z cc Ts own rm) {k n x0 y0 : Nat} {i : Int32} {q : Nat} (hkd : kd k = .inr (2, n, x0, y0)) (hi : i = nI q) (hq : q < n) (hd : decode cc pc = .ok (.laload, 1)) (kk : JJ Z κ M (pc + 1) L (.long (M.2 k q) :: st)) : JJ Z κ M pc L (.int i :: .ref ((zE Z).2.2 k) :: st) := fun H locs ls a b c d => by
  obtain ⟨h1, h2⟩ := kd_arr hkd hq
  obtain ⟨h3, h4⟩ := vp_inA hi hq h2
  refine va_lald F.x F.b F.K a k 2 (lw_at _ _ h1 (lc_l _ _ hkd)) rfl h3 hd ?_
  rw [h4]
  exact kk H locs ls a b c d
theorem jj_last (F : ZF Z cc Ts own rm) {k n x0 y0 : Nat} {i : Int32} {q : Nat} {x : Int64} (hkd : kd k = .inr (2, n, x0, y0)) (hi : i = nI q) (hq : q < n) (hd : decode cc pc = .ok (.lastore, 1)) (kk : JJ Z κ (wL M k (vp_updL (M.2 k) q x)) (pc + 1) L st) : JJ Z κ M pc L (.long x :: .int i :: .ref ((zE Z).2.2 k) :: st) := fun H locs ls a b c d => by
  obtain ⟨h1, h2⟩ := kd_arr hkd hq
  obtain ⟨h3, h4⟩ := vp_inA hi hq h2
  refine va_last F.x F.b F.K a b c k 2 (lw_at _ _ h1 (lc_l _ _ hkd)) rfl h3 hd (fun H1 locs1 a1 b1 c1 => ?_)
  rw [h4] at a1 b1
  rw [lw_wL (zE Z) M (g := vp_updL (M.2 k) q x) (by rw [lc_l _ _ hkd, wL_s])] at a1 b1
  exact kk H1 locs1 ls a1 b1 c1 d
theorem jj_aald (F : ZF Z cc Ts own rm) {k t n x0 y0 : Nat} {i : Int32} {q : Nat} (hkd : kd k = .inr (t + 3, n, x0, y0)) (hi : i = nI q) (hq : q < n) (hd : decode cc pc = .ok (.aaload, 1)) (kk : JJ Z κ M (pc + 1) L (.ref ((zE Z).2.2 (x0 + y0 * q)) :: st)) : JJ Z κ M pc L (.int i :: .ref ((zE Z).2.2 k) :: st) := fun H locs ls a b c d => by
  obtain ⟨h1, h2⟩ := kd_arr hkd hq
  obtain ⟨h3, h4⟩ := vp_inA hi hq h2
  have h5 := kd_lt505 k h1
  rw [hkd] at h5
  simp only [kdOk, Bool.and_eq_true, decide_eq_true_eq] at h5
  have h6 : t + 3 < 6 := h5.1
  have hty : ∃ C : String, (ltys (zE Z))[3 + t]? = some ((zE Z).2.1.2.2.2 t, .object C) := by
    match t, h6 with
    | 0, _ => exact ⟨_, rfl⟩
    | 1, _ => exact ⟨_, rfl⟩
    | 2, _ => exact ⟨_, rfl⟩
    | t + 3, h => omega
  obtain ⟨C, hty⟩ := hty
  refine va_aldq F.x F.b F.K a k (3 + t) (lw_at _ _ h1 (lc_r _ _ hkd)) hty h3 hd ?_
  rw [h4]
  exact kk H locs ls a b c d
end JH
/-! contracts -/
def GB (E : Ee) (A : Nat → Prop) (M : Mm) (t : State) : Prop := va_P E.1 vwCl (lw E M) t.heap ∧ va_K E.1 vwCl (ltys E) t ∧ va_D A (lw E M)
def AA (E : Ee) (sz : Nat) : Nat → Prop := fun q => (∃ k, k < 505 ∧ q = E.2.2 k) ∨ sz ≤ q
def PB (E : Ee) (M : Mm) (sz : Nat) (av : List Value) : Array Value → State → Prop := va_Pc av (fun U => U.heap.size = sz ∧ GB E (fun _ => True) M U)
def CtI (l : Launch) (E : Ee) (y : MethodName) (ws : List Cond) (rm : Room) (M : Mm) (av : List Value) (mc ms : Nat) (post : Int32 → Mm → Prop) : Prop := ∀ sz, Met l y ws rm (PB E M sz av) (va_Qi post (GB E (AA E sz)) (AA E sz)) mc ms (AA E sz)
def CtL (l : Launch) (E : Ee) (y : MethodName) (ws : List Cond) (rm : Room) (M : Mm) (av : List Value) (mc ms : Nat) (post : Int64 → Mm → Prop) : Prop := ∀ sz, Met l y ws rm (PB E M sz av) (va_Ql post (GB E (AA E sz)) (AA E sz)) mc ms (AA E sz)
def CtV (l : Launch) (E : Ee) (y : MethodName) (ws : List Cond) (rm : Room) (M : Mm) (av : List Value) (mc ms : Nat) (post : Mm → Prop) : Prop := ∀ sz, Met l y ws rm (PB E M sz av) (va_Qv post (GB E (AA E sz)) (AA E sz)) mc ms (AA E sz)
def CtR (l : Launch) (E : Ee) (y : MethodName) (ws : List Cond) (rm : Room) (M : Mm) (av : List Value) (mc ms : Nat) (post : Mm × Nat → Prop) : Prop := ∀ sz, Met l y ws rm (PB E M sz av) (va_Qr post (fun u a t => a = E.2.2 u.2 ∧ GB E (AA E sz) u.1 t) (AA E sz)) mc ms (AA E sz)
theorem gb_blind {E : Ee} {M : Mm} {sz : Nat} {av : List Value} : FrameBlind (PB E M sz av) := fun a U g mk q => by
  obtain ⟨q0, q1, qP, qK, qD⟩ := q
  exact ⟨q0, q1, qP, va_K.moved (u := U) (U := U.calling g mk a) (Vm.Alike.refl U.vm) qK, qD⟩
theorem aa_D {E : Ee} {A : Nat → Prop} {M : Mm} {sz : Nat} (h : va_D A (lw E M)) : va_D (AA E sz) (lw E M) := ⟨h.1, fun k q hq => by
  have hk : k < 505 := by have := (List.getElem?_eq_some_iff.mp hq).1; rw [lw_len] at this; exact this
  rw [lw_get E M hk] at hq
  cases hq
  exact Or.inl ⟨k, hk, rfl⟩⟩
theorem aa_N {E : Ee} {A : Nat → Prop} {M : Mm} (hN : ∀ k, k < 505 → A (E.2.2 k)) {B : Nat → Prop} (h : va_D B (lw E M)) : va_D A (lw E M) := ⟨h.1, fun k q hq => by
  have hk : k < 505 := by have := (List.getElem?_eq_some_iff.mp hq).1; rw [lw_len] at this; exact this
  rw [lw_get E M hk] at hq
  cases hq
  exact hN k hk⟩
section JC
variable {Z : Zt} {cc : ByteArray} {Ts : List Cond} {own : String} {rm : Room} {κ : Nat × Nat} {M : Mm} {pc : Nat} {L : List (Option Value)} {st stk : List Value}
variable {y : MethodName} {wsy wsy' : List Cond} {rmy : Room} {bytes : ByteArray} {maxL idx ci k mc ms na : Nat} {ret : Option FieldType} {As : List Value} {C : String} {T : u_T} {N : Nat} {fl : List Nat}
theorem zf_free (F : ZF Z cc Ts own rm) {H : Heap} {locs : List Loc} (c : va_S (zA Z) (zH Z) H locs) : ∀ q, AA (zE Z) H.size q → zA Z q := fun q h => by
  rcases h with ⟨k, hk, rfl⟩ | h
  · exact F.N k hk
  · exact F.A q (Nat.le_trans c.1 h)

theorem jj_callVi (F : ZF Z cc Ts own rm) {post : Int32 → Mm → Prop} (hM : CtI (zl Z) (zE Z) y wsy rmy M (.ref ((zE Z).2.2 k) :: As) mc ms post) (hG : GoodIn Ts (wsV own idx C y wsy)) (hw : wsy = Cond.code y bytes maxL ret :: wsy') (hrc : rmy.cells = mc) (hrs : rmy.slots = ms) (hd0 : y.cls = C ∧ y.cls ≠ "java/lang/invoke/MethodHandle" ∧ y.cls ≠ "java/lang/invoke/VarHandle" ∧ (parseMethodDescriptor y.desc).map (fun d => d.parameters.length) = some na) (hR : rmy.frames + 1 ≤ rm.frames ∧ 8 + (maxL + 11) + rmy.locals ≤ rm.locals) (hkd : kd k = .inl (ci, fl)) (hc : vwCl[ci]? = some (C, T, N)) (hna : As.length = na) (hst : stk = As.reverse ++ .ref ((zE Z).2.2 k) :: st) (hW : (st.map fun v => v.category).sum ≤ 8) (hro : κ.1 + mc ≤ rm.cells ∧ κ.2 + ms ≤ rm.slots) (hd : decode cc pc = .ok (.invokevirtual idx, 3)) (kk : ∀ r M2, post r M2 → JJ Z (κ.1 + mc, κ.2 + ms) M2 (pc + 3) L (.int r :: st)) : JJ Z κ M pc L stk := fun H locs ls a b c d => by
  refine va_calli (va_runV F.1 (hM H.size) (cwV na F.hts hG hw hrc hrs hd0 (by rw [F.R]; exact hR)) ⟨gb_blind, va_recv F.K a hc (lw_at _ _ (kd_obj hkd) (lc_obj _ _ hkd)), fun U hU hW1 => ⟨rfl, by rw [hU], by rw [hU]; exact a, va_K.moved hW1.alike F.K, ⟨b.1, fun _ _ _ => trivial⟩⟩⟩ rfl hna d.1 hst (lv_room hW) hd (by rw [F.R]; exact hro)) c (fun q _ h => zf_free F c q h) (zf_free F c) (fun r u t H1 locs1 ht hvm hw1 hB hz1 hk1 hS => ?_)
  obtain ⟨qP, qK, qD⟩ := hB
  rw [ht] at qP
  exact kk r u hw1 H1 locs1 ls qP (aa_N F.N qD) hS d
theorem jj_callSi (F : ZF Z cc Ts own rm) {post : Int32 → Mm → Prop} (hM : CtI (zl Z) (zE Z) y wsy rmy M As mc ms post) (hG : GoodIn Ts (va_wsS own idx y wsy)) (hw : wsy = Cond.code y bytes maxL ret :: wsy') (hrc : rmy.cells = mc) (hrs : rmy.slots = ms) (hd0 : y.cls ≠ "java/lang/invoke/MethodHandle" ∧ y.cls ≠ "java/lang/invoke/VarHandle" ∧ (parseMethodDescriptor y.desc).map (fun d => d.parameters.length) = some na) (hR : rmy.frames + 1 ≤ rm.frames ∧ 8 + (maxL + 11) + rmy.locals ≤ rm.locals) (hna : As.length = na) (hst : stk = As.reverse ++ st) (hW : (st.map fun v => v.category).sum ≤ 8) (hro : κ.1 + mc ≤ rm.cells ∧ κ.2 + ms ≤ rm.slots) (hd : decode cc pc = .ok (.invokestatic idx, 3)) (kk : ∀ r M2, post r M2 → JJ Z (κ.1 + mc, κ.2 + ms) M2 (pc + 3) L (.int r :: st)) : JJ Z κ M pc L stk := fun H locs ls a b c d => by
  refine va_calli (va_runS F.1 (hM H.size) (va_cwS na F.hts hG hw hrc hrs hd0 (by rw [F.R]; exact hR)) ⟨gb_blind, fun U hU hW1 => ⟨rfl, by rw [hU], by rw [hU]; exact a, va_K.moved hW1.alike F.K, ⟨b.1, fun _ _ _ => trivial⟩⟩⟩ rfl hna d.1 hst (lv_room hW) hd (by rw [F.R]; exact hro)) c (fun q _ h => zf_free F c q h) (zf_free F c) (fun r u t H1 locs1 ht hvm hw1 hB hz1 hk1 hS => ?_)
  obtain ⟨qP, qK, qD⟩ := hB
  rw [ht] at qP
  exact kk r u hw1 H1 locs1 ls qP (aa_N F.N qD) hS d
theorem jj_callVl (F : ZF Z cc Ts own rm) {post : Int64 → Mm → Prop} (hM : CtL (zl Z) (zE Z) y wsy rmy M (.ref ((zE Z).2.2 k) :: As) mc ms post) (hG : GoodIn Ts (wsV own idx C y wsy)) (hw : wsy = Cond.code y bytes maxL ret :: wsy') (hrc : rmy.cells = mc) (hrs : rmy.slots = ms) (hd0 : y.cls = C ∧ y.cls ≠ "java/lang/invoke/MethodHandle" ∧ y.cls ≠ "java/lang/invoke/VarHandle" ∧ (parseMethodDescriptor y.desc).map (fun d => d.parameters.length) = some na) (hR : rmy.frames + 1 ≤ rm.frames ∧ 8 + (maxL + 11) + rmy.locals ≤ rm.locals) (hkd : kd k = .inl (ci, fl)) (hc : vwCl[ci]? = some (C, T, N)) (hna : As.length = na) (hst : stk = As.reverse ++ .ref ((zE Z).2.2 k) :: st) (hW : (st.map fun v => v.category).sum ≤ 8) (hro : κ.1 + mc ≤ rm.cells ∧ κ.2 + ms ≤ rm.slots) (hd : decode cc pc = .ok (.invokevirtual idx, 3)) (kk : ∀ r M2, post r M2 → JJ Z (κ.1 + mc, κ.2 + ms) M2 (pc + 3) L (.long r :: st)) : JJ Z κ M pc L stk := fun H locs ls a b c d => by
  refine va_calll (va_runV F.1 (hM H.size) (cwV na F.hts hG hw hrc hrs hd0 (by rw [F.R]; exact hR)) ⟨gb_blind, va_recv F.K a hc (lw_at _ _ (kd_obj hkd) (lc_obj _ _ hkd)), fun U hU hW1 => ⟨rfl, by rw [hU], by rw [hU]; exact a, va_K.moved hW1.alike F.K, ⟨b.1, fun _ _ _ => trivial⟩⟩⟩ rfl hna d.1 hst (lv_room hW) hd (by rw [F.R]; exact hro)) c (fun q _ h => zf_free F c q h) (zf_free F c) (fun r u t H1 locs1 ht hvm hw1 hB hz1 hk1 hS => ?_)
  obtain ⟨qP, qK, qD⟩ := hB
  rw [ht] at qP
  exact kk r u hw1 H1 locs1 ls qP (aa_N F.N qD) hS d
theorem jj_callSl (F : ZF Z cc Ts own rm) {post : Int64 → Mm → Prop} (hM : CtL (zl Z) (zE Z) y wsy rmy M As mc ms post) (hG : GoodIn Ts (va_wsS own idx y wsy)) (hw : wsy = Cond.code y bytes maxL ret :: wsy') (hrc : rmy.cells = mc) (hrs : rmy.slots = ms) (hd0 : y.cls ≠ "java/lang/invoke/MethodHandle" ∧ y.cls ≠ "java/lang/invoke/VarHandle" ∧ (parseMethodDescriptor y.desc).map (fun d => d.parameters.length) = some na) (hR : rmy.frames + 1 ≤ rm.frames ∧ 8 + (maxL + 11) + rmy.locals ≤ rm.locals) (hna : As.length = na) (hst : stk = As.reverse ++ st) (hW : (st.map fun v => v.category).sum ≤ 8) (hro : κ.1 + mc ≤ rm.cells ∧ κ.2 + ms ≤ rm.slots) (hd : decode cc pc = .ok (.invokestatic idx, 3)) (kk : ∀ r M2, post r M2 → JJ Z (κ.1 + mc, κ.2 + ms) M2 (pc + 3) L (.long r :: st)) : JJ Z κ M pc L stk := fun H locs ls a b c d => by
  refine va_calll (va_runS F.1 (hM H.size) (va_cwS na F.hts hG hw hrc hrs hd0 (by rw [F.R]; exact hR)) ⟨gb_blind, fun U hU hW1 => ⟨rfl, by rw [hU], by rw [hU]; exact a, va_K.moved hW1.alike F.K, ⟨b.1, fun _ _ _ => trivial⟩⟩⟩ rfl hna d.1 hst (lv_room hW) hd (by rw [F.R]; exact hro)) c (fun q _ h => zf_free F c q h) (zf_free F c) (fun r u t H1 locs1 ht hvm hw1 hB hz1 hk1 hS => ?_)
  obtain ⟨qP, qK, qD⟩ := hB
  rw [ht] at qP
  exact kk r u hw1 H1 locs1 ls qP (aa_N F.N qD) hS d
theorem jj_callVv (F : ZF Z cc Ts own rm) {post : Mm → Prop} (hM : CtV (zl Z) (zE Z) y wsy rmy M (.ref ((zE Z).2.2 k) :: As) mc ms post) (hG : GoodIn Ts (wsV own idx C y wsy)) (hw : wsy = Cond.code y bytes maxL ret :: wsy') (hrc : rmy.cells = mc) (hrs : rmy.slots = ms) (hd0 : y.cls = C ∧ y.cls ≠ "java/lang/invoke/MethodHandle" ∧ y.cls ≠ "java/lang/invoke/VarHandle" ∧ (parseMethodDescriptor y.desc).map (fun d => d.parameters.length) = some na) (hR : rmy.frames + 1 ≤ rm.frames ∧ 8 + (maxL + 11) + rmy.locals ≤ rm.locals) (hkd : kd k = .inl (ci, fl)) (hc : vwCl[ci]? = some (C, T, N)) (hna : As.length = na) (hst : stk = As.reverse ++ .ref ((zE Z).2.2 k) :: st) (hW : (st.map fun v => v.category).sum ≤ 8) (hro : κ.1 + mc ≤ rm.cells ∧ κ.2 + ms ≤ rm.slots) (hd : decode cc pc = .ok (.invokevirtual idx, 3)) (kk : ∀ M2, post M2 → JJ Z (κ.1 + mc, κ.2 + ms) M2 (pc + 3) L st) : JJ Z κ M pc L stk := fun H locs ls a b c d => by
  refine va_callv (va_runV F.1 (hM H.size) (cwV na F.hts hG hw hrc hrs hd0 (by rw [F.R]; exact hR)) ⟨gb_blind, va_recv F.K a hc (lw_at _ _ (kd_obj hkd) (lc_obj _ _ hkd)), fun U hU hW1 => ⟨rfl, by rw [hU], by rw [hU]; exact a, va_K.moved hW1.alike F.K, ⟨b.1, fun _ _ _ => trivial⟩⟩⟩ rfl hna d.1 hst (lv_room hW) hd (by rw [F.R]; exact hro)) c (fun q _ h => zf_free F c q h) (zf_free F c) (fun u t H1 locs1 ht hvm hw1 hB hz1 hk1 hS => ?_)
  obtain ⟨qP, qK, qD⟩ := hB
  rw [ht] at qP
  exact kk u hw1 H1 locs1 ls qP (aa_N F.N qD) hS d
theorem jj_callVr (F : ZF Z cc Ts own rm) {post : Mm × Nat → Prop} (hM : CtR (zl Z) (zE Z) y wsy rmy M (.ref ((zE Z).2.2 k) :: As) mc ms post) (hG : GoodIn Ts (wsV own idx C y wsy)) (hw : wsy = Cond.code y bytes maxL ret :: wsy') (hrc : rmy.cells = mc) (hrs : rmy.slots = ms) (hd0 : y.cls = C ∧ y.cls ≠ "java/lang/invoke/MethodHandle" ∧ y.cls ≠ "java/lang/invoke/VarHandle" ∧ (parseMethodDescriptor y.desc).map (fun d => d.parameters.length) = some na) (hR : rmy.frames + 1 ≤ rm.frames ∧ 8 + (maxL + 11) + rmy.locals ≤ rm.locals) (hkd : kd k = .inl (ci, fl)) (hc : vwCl[ci]? = some (C, T, N)) (hna : As.length = na) (hst : stk = As.reverse ++ .ref ((zE Z).2.2 k) :: st) (hW : (st.map fun v => v.category).sum ≤ 8) (hro : κ.1 + mc ≤ rm.cells ∧ κ.2 + ms ≤ rm.slots) (hd : decode cc pc = .ok (.invokevirtual idx, 3)) (kk : ∀ (M2 : Mm) (r : Nat), post (M2, r) → JJ Z (κ.1 + mc, κ.2 + ms) M2 (pc + 3) L (.ref ((zE Z).2.2 r) :: st)) : JJ Z κ M pc L stk := fun H locs ls a b c d => by
  refine va_callr (va_runV F.1 (hM H.size) (cwV na F.hts hG hw hrc hrs hd0 (by rw [F.R]; exact hR)) ⟨gb_blind, va_recv F.K a hc (lw_at _ _ (kd_obj hkd) (lc_obj _ _ hkd)), fun U hU hW1 => ⟨rfl, by rw [hU], by rw [hU]; exact a, va_K.moved hW1.alike F.K, ⟨b.1, fun _ _ _ => trivial⟩⟩⟩ rfl hna d.1 hst (lv_room hW) hd (by rw [F.R]; exact hro)) c (fun q _ h => zf_free F c q h) (zf_free F c) (fun u aq t H1 locs1 ht hvm hw1 hB hz1 hk1 hS => ?_)
  obtain ⟨rfl, qP, qK, qD⟩ := hB
  rw [ht] at qP
  exact kk u.1 u.2 hw1 H1 locs1 ls qP (aa_N F.N qD) hS d
theorem jj_callSv (F : ZF Z cc Ts own rm) {post : Mm → Prop} (hM : CtV (zl Z) (zE Z) y wsy rmy M As mc ms post) (hG : GoodIn Ts (va_wsS own idx y wsy)) (hw : wsy = Cond.code y bytes maxL ret :: wsy') (hrc : rmy.cells = mc) (hrs : rmy.slots = ms) (hd0 : y.cls ≠ "java/lang/invoke/MethodHandle" ∧ y.cls ≠ "java/lang/invoke/VarHandle" ∧ (parseMethodDescriptor y.desc).map (fun d => d.parameters.length) = some na) (hR : rmy.frames + 1 ≤ rm.frames ∧ 8 + (maxL + 11) + rmy.locals ≤ rm.locals) (hna : As.length = na) (hst : stk = As.reverse ++ st) (hW : (st.map fun v => v.category).sum ≤ 8) (hro : κ.1 + mc ≤ rm.cells ∧ κ.2 + ms ≤ rm.slots) (hd : decode cc pc = .ok (.invokestatic idx, 3)) (kk : ∀ M2, post M2 → JJ Z (κ.1 + mc, κ.2 + ms) M2 (pc + 3) L st) : JJ Z κ M pc L stk := fun H locs ls a b c d => by
  refine va_callv (va_runS F.1 (hM H.size) (va_cwS na F.hts hG hw hrc hrs hd0 (by rw [F.R]; exact hR)) ⟨gb_blind, fun U hU hW1 => ⟨rfl, by rw [hU], by rw [hU]; exact a, va_K.moved hW1.alike F.K, ⟨b.1, fun _ _ _ => trivial⟩⟩⟩ rfl hna d.1 hst (lv_room hW) hd (by rw [F.R]; exact hro)) c (fun q _ h => zf_free F c q h) (zf_free F c) (fun u t H1 locs1 ht hvm hw1 hB hz1 hk1 hS => ?_)
  obtain ⟨qP, qK, qD⟩ := hB
  rw [ht] at qP
  exact kk u hw1 H1 locs1 ls qP (aa_N F.N qD) hS d
theorem jj_callSr (F : ZF Z cc Ts own rm) {post : Mm × Nat → Prop} (hM : CtR (zl Z) (zE Z) y wsy rmy M As mc ms post) (hG : GoodIn Ts (va_wsS own idx y wsy)) (hw : wsy = Cond.code y bytes maxL ret :: wsy') (hrc : rmy.cells = mc) (hrs : rmy.slots = ms) (hd0 : y.cls ≠ "java/lang/invoke/MethodHandle" ∧ y.cls ≠ "java/lang/invoke/VarHandle" ∧ (parseMethodDescriptor y.desc).map (fun d => d.parameters.length) = some na) (hR : rmy.frames + 1 ≤ rm.frames ∧ 8 + (maxL + 11) + rmy.locals ≤ rm.locals) (hna : As.length = na) (hst : stk = As.reverse ++ st) (hW : (st.map fun v => v.category).sum ≤ 8) (hro : κ.1 + mc ≤ rm.cells ∧ κ.2 + ms ≤ rm.slots) (hd : decode cc pc = .ok (.invokestatic idx, 3)) (kk : ∀ (M2 : Mm) (r : Nat), post (M2, r) → JJ Z (κ.1 + mc, κ.2 + ms) M2 (pc + 3) L (.ref ((zE Z).2.2 r) :: st)) : JJ Z κ M pc L stk := fun H locs ls a b c d => by
  refine va_callr (va_runS F.1 (hM H.size) (va_cwS na F.hts hG hw hrc hrs hd0 (by rw [F.R]; exact hR)) ⟨gb_blind, fun U hU hW1 => ⟨rfl, by rw [hU], by rw [hU]; exact a, va_K.moved hW1.alike F.K, ⟨b.1, fun _ _ _ => trivial⟩⟩⟩ rfl hna d.1 hst (lv_room hW) hd (by rw [F.R]; exact hro)) c (fun q _ h => zf_free F c q h) (zf_free F c) (fun u aq t H1 locs1 ht hvm hw1 hB hz1 hk1 hS => ?_)
  obtain ⟨rfl, qP, qK, qD⟩ := hB
  rw [ht] at qP
  exact kk u.1 u.2 hw1 H1 locs1 ls qP (aa_N F.N qD) hS d
end JC
theorem ctI_of {l : Launch} {E : Ee} {y : MethodName} {ws ws' : List Cond} {rm : Room} {M : Mm} {av : List Value} {mc ms : Nat} {post : Int32 → Mm → Prop} {cc : ByteArray} {maxL : Nat} {ty : FieldType} (hy : plainName y.cls = true) (hw : ws = Cond.code y cc maxL (some ty) :: ws') (hav : (lg_sl av).length ≤ maxL) {L0 : List (Option Value)} (hL : lq_pr 0 L0 = lv_args 0 av)
    (body : ∀ Z : Zt, zl Z = l → zE Z = E → zn Z = maxL → ZF Z cc ws y.cls rm → (∀ (pc : Nat) (r : Int32) (M2 : Mm) (L : List (Option Value)), decode cc pc = .ok (.ireturn, 1) → narrow ty (.int r) = .int r → post r M2 → JJ Z (mc, ms) M2 pc L [.int r]) → JJ Z (0, 0) M 0 L0 []) : CtI l E y ws rm M av mc ms post := by
  intro sz
  refine Met.ofW (cc := cc) (maxL := maxL) (ret := (some ty)) hy hw ?_
  intro p e s m args below meth c s₁ B hml hv
  obtain ⟨rfl, hsz, hP, hK, hD0⟩ := hv
  have hx := B.exec
  have hb := B.bytes
  have hr := B.returns
  have hts := atoms_spec (ws := ws) B.pre
  have hown : s.vm.findClass y.cls = some m.cls := findClass_of_methodNamed B.named
  have hlocks := B.notSynchronized
  subst hsz
  have hl := lv_entry av (n := maxL) hav
  rw [lg_entry_eq]
  generalize (lg_sl av ++ List.replicate (maxL - (lg_sl av).length) Slot.unset).toArray = ls at hl ⊢
  rw [← hL] at hl
  refine body ((p, l, e, (headSpec ws rm).room, s, m, av.toArray, below, meth, c), (E, AA E s.heap.size, s.heap, MQ below (va_Qi post (GB E (AA E s.heap.size)) (AA E s.heap.size)) av.toArray s mc ms (AA E s.heap.size), maxL)) rfl rfl rfl ⟨⟨hx, hb, hml, hown, hts⟩, hK, fun q h => Or.inr h, rfl, fun k hk => Or.inl ⟨k, hk, rfl⟩⟩ ?_ s.heap [] ls hP (aa_D hD0) va_S.rf (lq_of hl)
  · intro pc r M2 L hd hn hpost H locs ls a b c d
    exact W.zret hx hb hr hn (fun t ht hW => ⟨⟨r, M2, rfl, hpost, by rw [ht]; exact a, va_K.moved hW.alike hK, b⟩, c.F ht⟩) c.2.2 hd
theorem ctL_of {l : Launch} {E : Ee} {y : MethodName} {ws ws' : List Cond} {rm : Room} {M : Mm} {av : List Value} {mc ms : Nat} {post : Int64 → Mm → Prop} {cc : ByteArray} {maxL : Nat} (hy : plainName y.cls = true) (hw : ws = Cond.code y cc maxL (some .long) :: ws') (hav : (lg_sl av).length ≤ maxL) {L0 : List (Option Value)} (hL : lq_pr 0 L0 = lv_args 0 av)
    (body : ∀ Z : Zt, zl Z = l → zE Z = E → zn Z = maxL → ZF Z cc ws y.cls rm → (∀ (pc : Nat) (r : Int64) (M2 : Mm) (L : List (Option Value)), decode cc pc = .ok (.lreturn, 1) → post r M2 → JJ Z (mc, ms) M2 pc L [.long r]) → JJ Z (0, 0) M 0 L0 []) : CtL l E y ws rm M av mc ms post := by
  intro sz
  refine Met.ofW (cc := cc) (maxL := maxL) (ret := (some .long)) hy hw ?_
  intro p e s m args below meth c s₁ B hml hv
  obtain ⟨rfl, hsz, hP, hK, hD0⟩ := hv
  have hx := B.exec
  have hb := B.bytes
  have hr := B.returns
  have hts := atoms_spec (ws := ws) B.pre
  have hown : s.vm.findClass y.cls = some m.cls := findClass_of_methodNamed B.named
  have hlocks := B.notSynchronized
  subst hsz
  have hl := lv_entry av (n := maxL) hav
  rw [lg_entry_eq]
  generalize (lg_sl av ++ List.replicate (maxL - (lg_sl av).length) Slot.unset).toArray = ls at hl ⊢
  rw [← hL] at hl
  refine body ((p, l, e, (headSpec ws rm).room, s, m, av.toArray, below, meth, c), (E, AA E s.heap.size, s.heap, MQ below (va_Ql post (GB E (AA E s.heap.size)) (AA E s.heap.size)) av.toArray s mc ms (AA E s.heap.size), maxL)) rfl rfl rfl ⟨⟨hx, hb, hml, hown, hts⟩, hK, fun q h => Or.inr h, rfl, fun k hk => Or.inl ⟨k, hk, rfl⟩⟩ ?_ s.heap [] ls hP (aa_D hD0) va_S.rf (lq_of hl)
  · intro pc r M2 L hd hpost H locs ls a b c d
    exact W.lret hx hb hr (fun t ht hW => ⟨⟨r, M2, rfl, hpost, by rw [ht]; exact a, va_K.moved hW.alike hK, b⟩, c.F ht⟩) c.2.2 hd
theorem ctV_of {l : Launch} {E : Ee} {y : MethodName} {ws ws' : List Cond} {rm : Room} {M : Mm} {av : List Value} {mc ms : Nat} {post : Mm → Prop} {cc : ByteArray} {maxL : Nat} (hy : plainName y.cls = true) (hw : ws = Cond.code y cc maxL none :: ws') (hav : (lg_sl av).length ≤ maxL) {L0 : List (Option Value)} (hL : lq_pr 0 L0 = lv_args 0 av)
    (body : ∀ Z : Zt, zl Z = l → zE Z = E → zn Z = maxL → ZF Z cc ws y.cls rm → (∀ (pc : Nat) (M2 : Mm) (L : List (Option Value)), decode cc pc = .ok (.return_, 1) → post M2 → JJ Z (mc, ms) M2 pc L []) → JJ Z (0, 0) M 0 L0 []) : CtV l E y ws rm M av mc ms post := by
  intro sz
  refine Met.ofW (cc := cc) (maxL := maxL) (ret := none) hy hw ?_
  intro p e s m args below meth c s₁ B hml hv
  obtain ⟨rfl, hsz, hP, hK, hD0⟩ := hv
  have hx := B.exec
  have hb := B.bytes
  have hr := B.returns
  have hts := atoms_spec (ws := ws) B.pre
  have hown : s.vm.findClass y.cls = some m.cls := findClass_of_methodNamed B.named
  have hlocks := B.notSynchronized
  subst hsz
  have hl := lv_entry av (n := maxL) hav
  rw [lg_entry_eq]
  generalize (lg_sl av ++ List.replicate (maxL - (lg_sl av).length) Slot.unset).toArray = ls at hl ⊢
  rw [← hL] at hl
  refine body ((p, l, e, (headSpec ws rm).room, s, m, av.toArray, below, meth, c), (E, AA E s.heap.size, s.heap, MQ below (va_Qv post (GB E (AA E s.heap.size)) (AA E s.heap.size)) av.toArray s mc ms (AA E s.heap.size), maxL)) rfl rfl rfl ⟨⟨hx, hb, hml, hown, hts⟩, hK, fun q h => Or.inr h, rfl, fun k hk => Or.inl ⟨k, hk, rfl⟩⟩ ?_ s.heap [] ls hP (aa_D hD0) va_S.rf (lq_of hl)
  · intro pc M2 L hd hpost H locs ls a b c d
    exact W.vret hx hb hr (fun t ht hW => ⟨⟨M2, rfl, hpost, by rw [ht]; exact a, va_K.moved hW.alike hK, b⟩, c.F ht⟩) c.2.2 hd
theorem ctR_of {l : Launch} {E : Ee} {y : MethodName} {ws ws' : List Cond} {rm : Room} {M : Mm} {av : List Value} {mc ms : Nat} {post : Mm × Nat → Prop} {cc : ByteArray} {maxL : Nat} {ty : FieldType} (hty : ∃ n, ty = .object n) (hy : plainName y.cls = true) (hw : ws = Cond.code y cc maxL (some ty) :: ws') (hav : (lg_sl av).length ≤ maxL) {L0 : List (Option Value)} (hL : lq_pr 0 L0 = lv_args 0 av)
    (body : ∀ Z : Zt, zl Z = l → zE Z = E → zn Z = maxL → ZF Z cc ws y.cls rm → (∀ (pc : Nat) (r : Nat) (M2 : Mm) (L : List (Option Value)), decode cc pc = .ok (.areturn, 1) → post (M2, r) → JJ Z (mc, ms) M2 pc L [.ref (E.2.2 r)]) → JJ Z (0, 0) M 0 L0 []) : CtR l E y ws rm M av mc ms post := by
  intro sz
  refine Met.ofW (cc := cc) (maxL := maxL) (ret := (some ty)) hy hw ?_
  intro p e s m args below meth c s₁ B hml hv
  obtain ⟨rfl, hsz, hP, hK, hD0⟩ := hv
  have hx := B.exec
  have hb := B.bytes
  have hr := B.returns
  have hts := atoms_spec (ws := ws) B.pre
  have hown : s.vm.findClass y.cls = some m.cls := findClass_of_methodNamed B.named
  have hlocks := B.notSynchronized
  subst hsz
  have hl := lv_entry av (n := maxL) hav
  rw [lg_entry_eq]
  generalize (lg_sl av ++ List.replicate (maxL - (lg_sl av).length) Slot.unset).toArray = ls at hl ⊢
  rw [← hL] at hl
  refine body ((p, l, e, (headSpec ws rm).room, s, m, av.toArray, below, meth, c), (E, AA E s.heap.size, s.heap, MQ below (va_Qr post (fun u a t => a = E.2.2 u.2 ∧ GB E (AA E s.heap.size) u.1 t) (AA E s.heap.size)) av.toArray s mc ms (AA E s.heap.size), maxL)) rfl rfl rfl ⟨⟨hx, hb, hml, hown, hts⟩, hK, fun q h => Or.inr h, rfl, fun k hk => Or.inl ⟨k, hk, rfl⟩⟩ ?_ s.heap [] ls hP (aa_D hD0) va_S.rf (lq_of hl)
  · intro pc r M2 L hd hpost H locs ls a b c d
    exact W.aret hx hb hr (Or.inl hty) (Or.inr ⟨_, rfl⟩) (fun t ht hW => ⟨⟨(M2, r), E.2.2 r, rfl, hpost, rfl, by rw [ht]; exact a, va_K.moved hW.alike hK, b⟩, c.F ht⟩) c.2.2 hd
