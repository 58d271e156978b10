/-! the cells while they are made: the first n, in their order, at addresses in a row -/
def bw (E : Ee) (n : Nat) (B : Nat → va_E) : va_W := (List.range n).map (fun k => (E.2.2 k, B k))
def uB (B : Nat → va_E) (k : Nat) (e : va_E) : Nat → va_E := fun j => if j = k then e else B j
theorem uB_s (B : Nat → va_E) (k : Nat) (e : va_E) : uB B k e k = e := by simp [uB]
theorem uB_n {B : Nat → va_E} {k j : Nat} {e : va_E} (h : j ≠ k) : uB B k e j = B j := by simp [uB, h]
theorem uB_u (B : Nat → va_E) (k : Nat) (e e2 : va_E) : uB (uB B k e) k e2 = uB B k e2 := by
  funext j
  by_cases h : j = k <;> simp [uB, h]
theorem uB_c (B : Nat → va_E) {k j : Nat} (e e2 : va_E) (h : k ≠ j) : uB (uB B k e) j e2 = uB (uB B j e2) k e := by
  funext i
  by_cases h1 : i = k
  · subst h1; simp [uB, h]
  · by_cases h2 : i = j
    · subst h2; simp [uB, Ne.symm h]
    · simp [uB, h1, h2]
theorem uB_eq {B : Nat → va_E} {k : Nat} {e : va_E} (h : B k = e) : uB B k e = B := by
  funext j
  by_cases hj : j = k
  · subst hj; rw [uB_s, h]
  · rw [uB_n hj]
theorem bw_get (E : Ee) {n k : Nat} (B : Nat → va_E) (h : k < n) : (bw E n B)[k]? = some (E.2.2 k, B k) := by simp [bw, h]
theorem bw_len (E : Ee) (n : Nat) (B : Nat → va_E) : (bw E n B).length = n := by simp [bw]
theorem bw_lt {E : Ee} {n k : Nat} {B : Nat → va_E} {q : Nat × va_E} (h : (bw E n B)[k]? = some q) : k < n := by
  have := (List.getElem?_eq_some_iff.mp h).1
  rw [bw_len] at this
  exact this
theorem bw_set (E : Ee) {n k : Nat} {B : Nat → va_E} {e : va_E} : (bw E n B).set k (E.2.2 k, e) = bw E n (uB B k e) := by
  apply List.ext_getElem?
  intro i
  by_cases hi : i < n
  · rw [bw_get E _ hi]
    by_cases hk : i = k
    · subst hk
      rw [List.getElem?_set_self (by rw [bw_len]; exact hi), uB_s]
    · rw [List.getElem?_set_ne (fun h => hk h.symm), bw_get E B hi, uB_n hk]
  · rw [List.getElem?_eq_none (by rw [List.length_set, bw_len]; omega), List.getElem?_eq_none (by rw [bw_len]; omega)]
theorem bw_app (E : Ee) (n : Nat) (B : Nat → va_E) (e : va_E) : bw E n B ++ [(E.2.2 n, e)] = bw E (n + 1) (uB B n e) := by
  apply List.ext_getElem?
  intro i
  by_cases hi : i < n
  · rw [List.getElem?_append_left (by rw [bw_len]; exact hi), bw_get E _ hi, bw_get E _ (by omega), uB_n (by omega)]
  · rw [List.getElem?_append_right (by rw [bw_len]; omega), bw_len]
    by_cases hk : i = n
    · subst hk
      rw [bw_get E _ (by omega), uB_s, Nat.sub_self]
      rfl
    · rw [List.getElem?_eq_none (by simp; omega), List.getElem?_eq_none (by rw [bw_len]; omega)]
def ev (e e2 : va_E) : Prop := ∀ (D : va_G) (q : Nat) (H : Heap), va_at D vwCl (q, e) H → va_at D vwCl (q, e2) H
theorem ev_rf (e : va_E) : ev e e := fun _ _ _ h => h
theorem ev_e {e e2 : va_E} (h : e = e2) : ev e e2 := h ▸ ev_rf e
theorem ev_i {cA : ClassId} {n : Nat} {f g : Nat → Int32} (h : ∀ j, j < n → f j = g j) : ev (.inl (cA, n, .inl f)) (.inl (cA, n, .inl g)) := fun D q H a => by
  simp only [va_at] at a ⊢
  rw [a, vp_cell_i, vp_cell_i, arrV_cong (fun j hj => by rw [h j hj])]
theorem ev_l {cA : ClassId} {n : Nat} {f g : Nat → Int64} (h : ∀ j, j < n → f j = g j) : ev (.inl (cA, n, .inr (.inl f))) (.inl (cA, n, .inr (.inl g))) := fun D q H a => by
  simp only [va_at] at a ⊢
  rw [a, vp_cell_l, vp_cell_l, arrV_cong (fun j hj => by rw [h j hj])]
theorem ev_q {cA : ClassId} {n : Nat} {f g : Nat → Option Nat} (h : ∀ j, j < n → f j = g j) : ev (.inl (cA, n, .inr (.inr (.inr (.inr f))))) (.inl (cA, n, .inr (.inr (.inr (.inr g))))) := fun D q H a => by
  simp only [va_at] at a ⊢
  rw [a, vp_cell_q, vp_cell_q, arrV_cong (fun j hj => by rw [h j hj])]
theorem bw_ev {E : Ee} {n : Nat} {B C : Nat → va_E} {H : Heap} (h : ∀ j, j < n → ev (B j) (C j)) (a : va_P E.1 vwCl (bw E n B) H) : va_P E.1 vwCl (bw E n C) H := by
  intro k q hq
  have hk := bw_lt hq
  rw [bw_get E C hk] at hq
  cases hq
  exact h k hk _ _ _ (a k _ (bw_get E B hk))
def Ln (E : Ee) : Prop := ∀ k, E.2.2 k = E.2.2 0 + k
theorem bw_D {E : Ee} (hL : Ln E) {A : Nat → Prop} (hA : ∀ q, E.2.2 0 ≤ q → A q) (n : Nat) (B : Nat → va_E) : va_D A (bw E n B) := by
  refine ⟨fun i j p q hp hq e => ?_, fun k q hq => ?_⟩
  · have hi := bw_lt hp
    have hj := bw_lt hq
    rw [bw_get E B hi] at hp
    rw [bw_get E B hj] at hq
    cases hp
    cases hq
    have e : E.2.2 i = E.2.2 j := e
    rw [hL i, hL j] at e
    omega
  · have hk := bw_lt hq
    rw [bw_get E B hk] at hq
    cases hq
    exact hA _ (by show E.2.2 0 ≤ E.2.2 k; rw [hL k]; omega)
def BJ (Z : Zt) (κ : Nat × Nat) (n : Nat) (B : Nat → va_E) (pc : Nat) (L : List (Option Value)) (st : List Value) : Prop :=
  ∀ (H : Heap) (locs : List Loc) (ls : Array Slot), va_P (zE Z).1 vwCl (bw (zE Z) n B) H → va_S (zA Z) (zH Z) H locs → lq_has ls (zn Z) L → zW Z H locs κ (F0 (zm Z) pc ls st)
/-- the constructors of nest mates -/
def nwA : List (String × Nat × MethodName) := [(RX8, 9, yX5_init), (RX2, 24, yX4_init), (RX4, 39, yX0_init), (RX1, 24, yX0_init), (RX7, 27, yX0_init), (RX8, 48, yX6_init), (RX6, 11, yX0_init), (RX8, 55, yX0_init), (RX8, 64, yX3_init)]
def BO (U : State) : Prop := va_AO RX0 U ∧ va_AO RX3 U ∧ va_AO RX4 U ∧ ∀ q ∈ nwA, va_Nw (.methodLinkNest q.1 q.2.1 q.2.2 RX8) U
theorem BO.same {u U : State} (h : u.vm = U.vm) (hb : BO u) : BO U := ⟨va_AO.moved (by rw [h]; exact Vm.Alike.refl _) hb.1, va_AO.moved (by rw [h]; exact Vm.Alike.refl _) hb.2.1, va_AO.moved (by rw [h]; exact Vm.Alike.refl _) hb.2.2.1, fun q hq => va_Nw.same rfl h (hb.2.2.2 q hq)⟩
theorem BO.warm {u U : State} (h : u.WarmedH U.vm) (hb : BO u) : BO U := ⟨hb.1.moved h.alike, hb.2.1.moved h.alike, hb.2.2.1.moved h.alike, fun q hq => va_Nw.warmM h (hb.2.2.2 q hq)⟩
/-- the machine at a method that makes cells: n0 cells were there at its entry -/
def BX (Z : Zt) (n0 : Nat) : Prop := Ln (zE Z) ∧ (zs Z).heap.size = (zE Z).2.2 n0 ∧ zA Z = (fun q => (zE Z).2.2 0 ≤ q) ∧ BO (zs Z)
section BR
variable {Z : Zt} {cc : ByteArray} {Ts : List Cond} {own : String} {rm : Room} {κ : Nat × Nat} {n0 n : Nat} {B : Nat → va_E} {pc : Nat} {L : List (Option Value)} {st : List Value}
theorem BX.A (X : BX Z n0) : ∀ q, (zE Z).2.2 0 ≤ q → zA Z q := fun q h => by rw [X.2.2.1]; exact h
theorem bj_iconst (F : ZF Z cc Ts own rm) {m : Int} {v : Int32} (hd : decode cc pc = .ok (.iconst m, 1)) (hv : Int32.ofInt m = v) (k : BJ Z κ n B (pc + 1) L (.int v :: st)) : BJ Z κ n B pc L st := fun H locs ls a c d => lv_iconst F.x F.b hd hv (k H locs ls a c d)
theorem bj_bipush (F : ZF Z cc Ts own rm) {m : Int} {v : Int32} (hd : decode cc pc = .ok (.bipush m, 2)) (hv : (Int8.ofInt m).toInt32 = v) (k : BJ Z κ n B (pc + 2) L (.int v :: st)) : BJ Z κ n B pc L st := fun H locs ls a c d => lv_bipush F.x F.b hd hv (k H locs ls a c d)
theorem bj_sipush (F : ZF Z cc Ts own rm) {m : Int} {v : Int32} (hd : decode cc pc = .ok (.sipush m, 3)) (hv : (Int16.ofInt m).toInt32 = v) (k : BJ Z κ n B (pc + 3) L (.int v :: st)) : BJ Z κ n B pc L st := fun H locs ls a c d => lv_sipush F.x F.b hd hv (k H locs ls a c d)
theorem bj_iload_n (F : ZF Z cc Ts own rm) {i : Fin 4} {x : Int32} (hd : decode cc pc = .ok (.iload_n i, 1)) (hl : L[(i : Nat)]? = some (some (.int x))) (k : BJ Z κ n B (pc + 1) L (.int x :: st)) : BJ Z κ n B pc L st := fun H locs ls a c d => lv_iload_n F.x F.b hd rfl (d.2.2 _ _ hl) (k H locs ls a c d)
theorem bj_aload_n (F : ZF Z cc Ts own rm) {i : Fin 4} {x : Nat} (hd : decode cc pc = .ok (.aload_n i, 1)) (hl : L[(i : Nat)]? = some (some (.ref x))) (k : BJ Z κ n B (pc + 1) L (.ref x :: st)) : BJ Z κ n B pc L st := fun H locs ls a c d => lv_aload_n F.x F.b hd rfl (d.2.2 _ _ hl) (k H locs ls a c d)
theorem bj_istore_n (F : ZF Z cc Ts own rm) {i : Fin 4} {x : Int32} (hd : decode cc pc = .ok (.istore_n i, 1)) (hn : (i : Nat) < zn Z) (k : BJ Z κ n B (pc + 1) (lq_st L i (.int x)) st) : BJ Z κ n B pc L (.int x :: st) := fun H locs ls a c d => lv_istore_n F.x F.b hd rfl (lq_lv d) hn rfl (fun ls2 h2 => k H locs ls2 a c (lq_store1 h2))
theorem bj_astore_n (F : ZF Z cc Ts own rm) {i : Fin 4} {x : Nat} (hd : decode cc pc = .ok (.astore_n i, 1)) (hn : (i : Nat) < zn Z) (k : BJ Z κ n B (pc + 1) (lq_st L i (.ref x)) st) : BJ Z κ n B pc L (.ref x :: st) := fun H locs ls a c d => lv_astore_n F.x F.b hd rfl (lq_lv d) hn rfl (fun ls2 h2 => k H locs ls2 a c (lq_store1 h2))
theorem bj_iinc (F : ZF Z cc Ts own rm) {i : Nat} {m : Int} {x v : Int32} (hd : decode cc pc = .ok (.iinc i m, 3)) (hl : L[i]? = some (some (.int x))) (hv : x + Int32.ofInt m = v) (hn : i < zn Z) (k : BJ Z κ n B (pc + 3) (lq_st L i (.int v)) st) : BJ Z κ n B pc L st := fun H locs ls a c d => by
  obtain ⟨q, hq⟩ := List.getElem?_of_mem (lq_pr_in L 0 i (.int x) hl)
  rw [Nat.zero_add] at hq
  exact lv_iinc F.x F.b hd (lq_lv d) hq hv hn rfl (fun ls2 h2 => k H locs ls2 a c (lq_store1 h2))
theorem bj_dup (F : ZF Z cc Ts own rm) {v : Value} (hd : decode cc pc = .ok (.dup, 1)) (hv : v.category = 1) (k : BJ Z κ n B (pc + 1) L (v :: v :: st)) : BJ Z κ n B pc L (v :: st) := fun H locs ls a c d => lv_dup F.x F.b hd hv (k H locs ls a c d)
theorem bj_goto (F : ZF Z cc Ts own rm) {off : Int} {tgt : Nat} (hd : decode cc pc = .ok (.goto off, 3)) (ht : (pc : Int) + off = (tgt : Int)) (k : BJ Z κ n B tgt L st) : BJ Z κ n B pc L st := fun H locs ls a c d => lv_goto F.x F.b hd ht (k H locs ls a c d)
theorem bj_icmp_ge (F : ZF Z cc Ts own rm) {x y : Int32} {off : Int} {tgt : Nat} (hd : decode cc pc = .ok (.if_icmp .ge off, 3)) (ht : (pc : Int) + off = (tgt : Int)) (kt : y ≤ x → BJ Z κ n B tgt L st) (kf : ¬ y ≤ x → BJ Z κ n B (pc + 3) L st) : BJ Z κ n B pc L (.int y :: .int x :: st) := fun H locs ls a c d => lv_icmp_ge F.x F.b hd ht (fun h => kt h H locs ls a c d) (fun h => kf h H locs ls a c d)
theorem bj_wid {κ2 : Nat × Nat} (h1 : κ.1 ≤ κ2.1) (h2 : κ.2 ≤ κ2.2) (k : BJ Z κ2 n B pc L st) : BJ Z κ n B pc L st := fun H locs ls a c d => W.widen h1 h2 (k H locs ls a c d)
theorem bj_ev {C : Nat → va_E} (h : ∀ j, j < n → ev (B j) (C j)) (k : BJ Z κ n C pc L st) : BJ Z κ n B pc L st := fun H locs ls a c d => k H locs ls (bw_ev h a) c d
theorem bj_eB {C : Nat → va_E} (h : B = C) (k : BJ Z κ n C pc L st) : BJ Z κ n B pc L st := h ▸ k
theorem bj_obj (F : ZF Z cc Ts own rm) {idx x : Nat} (hlk : Cond.methodLink own idx objectInit ∈ Ts) (hin : Cond.instanceMethod objectInit ∈ Ts) (hco : Cond.code objectInit ⟨#[0xb1]⟩ 1 none ∈ Ts) (hfr : 1 ≤ rm.frames) (hlo : (st.map fun v => v.category).sum + 12 ≤ rm.locals) (hd : decode cc pc = .ok (.invokespecial idx, 3)) (k : BJ Z κ n B (pc + 3) L st) : BJ Z κ n B pc L (.ref x :: st) := fun H locs ls a c d => by
  refine W.objInit F.x F.b F.ow (F.hts _ hlk) (F.hts _ hin) (F.hts _ hco) rfl (d.1.trans F.ml.symm) rfl hd (by rw [F.R]; exact hfr) (by rw [F.R]; show 2 * 0 + _ + 12 ≤ _; rw [Nat.mul_zero, Nat.zero_add]; exact hlo) ?_
  exact k H locs ls a c d
theorem bj_adr (X : BX Z n0) {q k1 : Nat} {e : va_E} {H1 : Heap} (hn : n = n0 + k1) (hP : va_P (zE Z).1 vwCl (bw (zE Z) n B ++ [(q, e)]) H1) (hD : va_D (zA Z) (bw (zE Z) n B ++ [(q, e)])) (hz : H1.size ≤ (zs Z).heap.size + (k1 + 1)) : q = (zE Z).2.2 n := by
  have hg : (bw (zE Z) n B ++ [(q, e)])[n]? = some (q, e) := by
    rw [List.getElem?_append_right (by rw [bw_len]; omega), bw_len, Nat.sub_self]
    rfl
  have h1 : q < H1.size := (hP n _ hg).lt
  have h2 : zA Z q := hD.2 n _ hg
  rw [X.2.2.1] at h2
  have h2 : (zE Z).2.2 0 ≤ q := h2
  have h3 := X.1 n0
  have h4 := X.1 n
  rw [X.2.1] at hz
  rcases Nat.lt_or_ge q ((zE Z).2.2 n) with h5 | h5
  · exfalso
    have h6 := X.1 (q - (zE Z).2.2 0)
    have hj : q - (zE Z).2.2 0 < n := by omega
    have hg2 : (bw (zE Z) n B ++ [(q, e)])[q - (zE Z).2.2 0]? = some ((zE Z).2.2 (q - (zE Z).2.2 0), B (q - (zE Z).2.2 0)) := by
      rw [List.getElem?_append_left (by rw [bw_len]; exact hj), bw_get _ _ hj]
    have h7 := hD.1 _ _ _ _ hg2 hg (by show (zE Z).2.2 (q - (zE Z).2.2 0) = q; omega)
    omega
  · omega
theorem bj_new (F : ZF Z cc Ts own rm) (X : BX Z n0) {ik ci N : Nat} {C : String} {T : u_T} {fs : List Value} (ty : Nat → FieldType) (hty : ∀ k, k < N → parseFieldDescriptor (T k).2.2.1 = some (ty k)) (hin : ∀ w ∈ u_ws C T N, w ∈ Ts) (hcl : Cond.classLink own ik C ∈ Ts) (hinst : Cond.instantiable C N ∈ Ts) (hini : Cond.initialized C ∈ Ts) (hc : vwCl[ci]? = some (C, T, N)) (hfs : ∀ j, j < N → defaultValue (ty j) = vp_V fs j) (hn : n = n0 + κ.1) (hr : κ.1 + 1 ≤ rm.cells ∧ κ.2 + N ≤ rm.slots) (hd : decode cc pc = .ok (.new ik, 3)) (k : BJ Z (κ.1 + 1, κ.2 + N) (n + 1) (uB B n (.inr (ci, fs))) (pc + 3) L (.ref ((zE Z).2.2 n) :: st)) : BJ Z κ n B pc L st := fun H locs ls a c d => by
  refine va_new F.x F.b F.hts hin ty hty F.ow (F.hts _ hcl) (F.hts _ hinst) (F.hts _ hini) F.K a (bw_D X.1 X.A _ _) c F.A hc hfs (by rw [F.R]; exact hr.1) (by rw [F.R]; exact hr.2) hd (fun q H1 a1 b1 c1 => ?_)
  intro T1 hT1 X1
  have hq := bj_adr X hn a1 b1 (by rw [← hT1]; exact X1.heapSize)
  subst hq
  rw [bw_app] at a1
  exact k H1 locs ls a1 c1 d T1 hT1 X1
theorem bj_newI (F : ZF Z cc Ts own rm) (X : BX Z n0) {N : Nat} {m : Int32} (h0 : ¬ m < 0) (hm : m.toNatClampNeg = N) (hN : N ≤ 256) (hB : ev (.inl ((zE Z).2.1.1, N, .inl (fun _ => 0))) (B n)) (harr : Cond.arrayClass .int ∈ Ts) (hn : n = n0 + κ.1) (hr : κ.1 + 1 ≤ rm.cells ∧ κ.2 + N ≤ rm.slots) (hd : decode cc pc = .ok (.newarray .int, 2)) (k : BJ Z (κ.1 + 1, κ.2 + N) (n + 1) B (pc + 2) L (.ref ((zE Z).2.2 n) :: st)) : BJ Z κ n B pc L (.int m :: st) := fun H locs ls a c d => by
  refine va_newa (atype := .int) (a0 := (N, .inl (fun _ => 0))) F.x F.b (F.hts _ harr) rfl F.K a (bw_D X.1 X.A _ _) c F.A (fun cA => rfl) h0 hm (by show N * 4 ≤ 536870912; omega) (by rw [F.R]; exact hr.1) (by rw [F.R]; exact hr.2) hd (fun q cA H1 hK1 a1 b1 c1 => ?_)
  intro T1 hT1 X1
  have hq := bj_adr X hn a1 b1 (by rw [← hT1]; exact X1.heapSize)
  subst hq
  have e1 : (zs Z).vm.findClass ("[" ++ FieldType.int.toString) = some cA := (hK1.2 6 (cA, .int) rfl).2
  have e2 : (zs Z).vm.findClass ("[" ++ FieldType.int.toString) = some (zE Z).2.1.1 := (F.K.2 0 ((zE Z).2.1.1, .int) rfl).2
  have e3 : cA = (zE Z).2.1.1 := Option.some.inj (e1.symm.trans e2)
  subst e3
  rw [bw_app] at a1
  refine k H1 locs ls (bw_ev (fun j hj => ?_) a1) c1 d T1 hT1 X1
  by_cases e : j = n
  · subst e; rw [uB_s]; exact hB
  · rw [uB_n e]; exact ev_rf _
theorem bj_topn (F : ZF Z cc Ts own rm) (X : BX Z n0) {N : Nat} {m : Int32} (h0 : ¬ m < 0) (hm : m.toNatClampNeg = N) (hN : N ≤ 256) (harr : Cond.arrayClass .int ∈ Ts) (hn : n = n0 + κ.1) (hr : κ.1 + 1 ≤ rm.cells ∧ κ.2 + N ≤ rm.slots) (hd : decode cc pc = .ok (.newarray .int, 2)) (k : BJ Z (κ.1 + 1, κ.2 + N) (n + 1) (uB B n (.inl ((zE Z).2.1.1, N, .inl (fun _ => 0)))) (pc + 2) L (.ref ((zE Z).2.2 n) :: st)) : BJ Z κ n B pc L (.int m :: st) := fun H locs ls a c d => by
  refine va_newa (atype := .int) (a0 := (N, .inl (fun _ => 0))) F.x F.b (F.hts _ harr) rfl F.K a (bw_D X.1 X.A _ _) c F.A (fun cA => rfl) h0 hm (by show N * 4 ≤ 536870912; omega) (by rw [F.R]; exact hr.1) (by rw [F.R]; exact hr.2) hd (fun q cA H1 hK1 a1 b1 c1 => ?_)
  intro T1 hT1 X1
  have hq := bj_adr X hn a1 b1 (by rw [← hT1]; exact X1.heapSize)
  subst hq
  have e1 : (zs Z).vm.findClass ("[" ++ FieldType.int.toString) = some cA := (hK1.2 6 (cA, .int) rfl).2
  have e2 : (zs Z).vm.findClass ("[" ++ FieldType.int.toString) = some (zE Z).2.1.1 := (F.K.2 0 ((zE Z).2.1.1, .int) rfl).2
  have e3 : cA = (zE Z).2.1.1 := Option.some.inj (e1.symm.trans e2)
  subst e3
  rw [bw_app] at a1
  exact k H1 locs ls a1 c1 d T1 hT1 X1
theorem bj_newZ (F : ZF Z cc Ts own rm) (X : BX Z n0) {N : Nat} {m : Int32} (h0 : ¬ m < 0) (hm : m.toNatClampNeg = N) (hN : N ≤ 256) (hB : ev (.inl ((zE Z).2.1.2.1, N, .inl (fun _ => 0))) (B n)) (harr : Cond.arrayClass .boolean ∈ Ts) (hn : n = n0 + κ.1) (hr : κ.1 + 1 ≤ rm.cells ∧ κ.2 + N ≤ rm.slots) (hd : decode cc pc = .ok (.newarray .boolean, 2)) (k : BJ Z (κ.1 + 1, κ.2 + N) (n + 1) B (pc + 2) L (.ref ((zE Z).2.2 n) :: st)) : BJ Z κ n B pc L (.int m :: st) := fun H locs ls a c d => by
  refine va_newa (atype := .boolean) (a0 := (N, .inl (fun _ => 0))) F.x F.b (F.hts _ harr) rfl F.K a (bw_D X.1 X.A _ _) c F.A (fun cA => rfl) h0 hm (by show N * 1 ≤ 536870912; omega) (by rw [F.R]; exact hr.1) (by rw [F.R]; exact hr.2) hd (fun q cA H1 hK1 a1 b1 c1 => ?_)
  intro T1 hT1 X1
  have hq := bj_adr X hn a1 b1 (by rw [← hT1]; exact X1.heapSize)
  subst hq
  have e1 : (zs Z).vm.findClass ("[" ++ FieldType.boolean.toString) = some cA := (hK1.2 6 (cA, .boolean) rfl).2
  have e2 : (zs Z).vm.findClass ("[" ++ FieldType.boolean.toString) = some (zE Z).2.1.2.1 := (F.K.2 1 ((zE Z).2.1.2.1, .boolean) rfl).2
  have e3 : cA = (zE Z).2.1.2.1 := Option.some.inj (e1.symm.trans e2)
  subst e3
  rw [bw_app] at a1
  refine k H1 locs ls (bw_ev (fun j hj => ?_) a1) c1 d T1 hT1 X1
  by_cases e : j = n
  · subst e; rw [uB_s]; exact hB
  · rw [uB_n e]; exact ev_rf _
theorem bj_newL (F : ZF Z cc Ts own rm) (X : BX Z n0) {N : Nat} {m : Int32} (h0 : ¬ m < 0) (hm : m.toNatClampNeg = N) (hN : N ≤ 256) (hB : ev (.inl ((zE Z).2.1.2.2.1, N, .inr (.inl (fun _ => 0)))) (B n)) (harr : Cond.arrayClass .long ∈ Ts) (hn : n = n0 + κ.1) (hr : κ.1 + 1 ≤ rm.cells ∧ κ.2 + N ≤ rm.slots) (hd : decode cc pc = .ok (.newarray .long, 2)) (k : BJ Z (κ.1 + 1, κ.2 + N) (n + 1) B (pc + 2) L (.ref ((zE Z).2.2 n) :: st)) : BJ Z κ n B pc L (.int m :: st) := fun H locs ls a c d => by
  refine va_newa (atype := .long) (a0 := (N, .inr (.inl (fun _ => 0)))) F.x F.b (F.hts _ harr) rfl F.K a (bw_D X.1 X.A _ _) c F.A (fun cA => rfl) h0 hm (by show N * 8 ≤ 536870912; omega) (by rw [F.R]; exact hr.1) (by rw [F.R]; exact hr.2) hd (fun q cA H1 hK1 a1 b1 c1 => ?_)
  intro T1 hT1 X1
  have hq := bj_adr X hn a1 b1 (by rw [← hT1]; exact X1.heapSize)
  subst hq
  have e1 : (zs Z).vm.findClass ("[" ++ FieldType.long.toString) = some cA := (hK1.2 6 (cA, .long) rfl).2
  have e2 : (zs Z).vm.findClass ("[" ++ FieldType.long.toString) = some (zE Z).2.1.2.2.1 := (F.K.2 2 ((zE Z).2.1.2.2.1, .long) rfl).2
  have e3 : cA = (zE Z).2.1.2.2.1 := Option.some.inj (e1.symm.trans e2)
  subst e3
  rw [bw_app] at a1
  refine k H1 locs ls (bw_ev (fun j hj => ?_) a1) c1 d T1 hT1 X1
  by_cases e : j = n
  · subst e; rw [uB_s]; exact hB
  · rw [uB_n e]; exact ev_rf _
/-- a row of references, nothing in it -/
abbrev rq (E : Ee) (t N : Nat) (f : Nat → Option Nat) : va_E := .inl (E.2.1.2.2.2 t, N, .inr (.inr (.inr (.inr f))))
theorem bj_anew (F : ZF Z cc Ts own rm) (X : BX Z n0) {t ik N : Nat} {C : String} {m : Int32} (hao : va_AO C (zs Z)) (ht : (ltys (zE Z))[3 + t]? = some ((zE Z).2.1.2.2.2 t, .object C)) (hcl : Cond.classLink own ik C ∈ Ts) (h0 : ¬ m < 0) (hm : m.toNatClampNeg = N) (hN : N ≤ 256) (hn : n = n0 + κ.1) (hr : κ.1 + 1 ≤ rm.cells ∧ κ.2 + N ≤ rm.slots) (hd : decode cc pc = .ok (.anewarray ik, 3)) (k : BJ Z (κ.1 + 1, κ.2 + N) (n + 1) (uB B n (rq (zE Z) t N (fun _ => none))) (pc + 3) L (.ref ((zE Z).2.2 n) :: st)) : BJ Z κ n B pc L (.int m :: st) := fun H locs ls a c d => by
  refine va_newq F.x F.b F.ow (F.hts _ hcl) hao F.K a (bw_D X.1 X.A _ _) c F.A h0 hm (by omega) (by rw [F.R]; exact hr.1) (by rw [F.R]; exact hr.2) hd (fun q cA H1 hK1 a1 b1 c1 => ?_)
  intro T1 hT1 X1
  have hq := bj_adr X hn a1 b1 (by rw [← hT1]; exact X1.heapSize)
  subst hq
  obtain ⟨-, -, -, -, -, e1⟩ := (hK1.2 6 (cA, .object C) rfl).2
  obtain ⟨-, -, -, -, -, e2⟩ := (F.K.2 (3 + t) _ ht).2
  have e3 : cA = (zE Z).2.1.2.2.2 t := Option.some.inj (e1.symm.trans e2)
  subst e3
  rw [bw_app] at a1
  exact k H1 locs ls a1 c1 d T1 hT1 X1
theorem bj_put (F : ZF Z cc Ts own rm) (X : BX Z n0) {idx ci j k : Nat} {ty : FieldType} {v : Value} {fs : List Value} (g : FP Z idx ci j ty) (hk : k < n) (hB : B k = .inr (ci, fs)) (hl : j < fs.length) (hn : narrow ty v = v) (hfit : fits ty v = true) (hd : decode cc pc = .ok (.putfield idx, 3)) (kk : BJ Z κ n (uB B k (.inr (ci, fs.set j v))) (pc + 3) L st) : BJ Z κ n B pc L (v :: .ref ((zE Z).2.2 k) :: st) := fun H locs ls a c d => by
  obtain ⟨C, T, N, own, Ts, ty0, hc, hjN, hts, hin, hown, h1, hl9, hty, hnm, hf, hpd⟩ := g
  refine va_put F.x F.b hts hin ty0 hty hnm hown F.K a (bw_D X.1 X.A _ _) c k (by rw [bw_get _ _ hk, hB]) hc j hjN hl9 (fun x hx => by rw [h1] at hx; exact hx) hf hpd hn hfit hl hd (fun H1 locs1 a1 b1 c1 => ?_)
  rw [bw_set] at a1
  exact kk H1 locs1 ls a1 c1 d
theorem bj_putF (F : ZF Z cc Ts own rm) (X : BX Z n0) (hnm9 : (zt Z).name = "<init>") {idx ci j k N : Nat} {C : String} {T : u_T} {ty0 : Nat → FieldType} {ty : FieldType} {v : Value} {fs : List Value} (hin : ∀ w ∈ u_ws C T N, w ∈ Ts) (hty : ∀ k, k < N → parseFieldDescriptor (T k).2.2.1 = some (ty0 k)) (hnm : ∀ a, a < N → ∀ b, b < N → a ≠ b → (T a).2.1 ≠ (T b).2.1) (hc : vwCl[ci]? = some (C, T, N)) (hjN : j < N) (h1 : (T j).1 = C) (hl9 : Cond.fieldLink own idx C (T j).2.1 (T j).2.2.1 ∈ Ts) (hf : (T j).2.2.2 = true) (hdc : (T j).1 = own) (hpd : parseFieldDescriptor (T j).2.2.1 = some ty) (hk : k < n) (hB : B k = .inr (ci, fs)) (hl : j < fs.length) (hn : narrow ty v = v) (hfit : fits ty v = true) (hd : decode cc pc = .ok (.putfield idx, 3)) (kk : BJ Z κ n (uB B k (.inr (ci, fs.set j v))) (pc + 3) L st) : BJ Z κ n B pc L (v :: .ref ((zE Z).2.2 k) :: st) := fun H locs ls a c d => by
  refine va_putF F.x F.b F.hts hin ty0 hty hnm F.ow F.K a (bw_D X.1 X.A _ _) c k (by rw [bw_get _ _ hk, hB]) hc j hjN (F.hts _ hl9) (fun x hx => by rw [h1] at hx; exact hx) hf hnm9 hdc hpd hn hfit hl hd (fun H1 locs1 a1 b1 c1 => ?_)
  rw [bw_set] at a1
  exact kk H1 locs1 ls a1 c1 d
theorem bj_get (F : ZF Z cc Ts own rm) {idx ci j k : Nat} {v : Value} {fs : List Value} (g : FG Z idx ci j) (hk : k < n) (hB : B k = .inr (ci, fs)) (hv : fs[j]? = some v) (hd : decode cc pc = .ok (.getfield idx, 3)) (kk : BJ Z κ n B (pc + 3) L (v :: st)) : BJ Z κ n B pc L (.ref ((zE Z).2.2 k) :: st) := fun H locs ls a c d => by
  obtain ⟨C, T, N, own, Ts, hc, hj, hts, hin, hown, h1, hl⟩ := g
  exact va_get F.x F.b hts hin hown F.K a k (by rw [bw_get _ _ hk, hB]) hc j hj hl (fun x hx => by rw [h1] at hx; exact hx) hv hd (kk H locs ls a c d)
theorem bj_aast (F : ZF Z cc Ts own rm) (X : BX Z n0) {t r N q ci i : Nat} {f : Nat → Option Nat} {C : String} {T : u_T} {N2 : Nat} {vs : List Value} {x : Int32} (hr : r < n) (hB : B r = rq (zE Z) t N f) (ht : (ltys (zE Z))[3 + t]? = some ((zE Z).2.1.2.2.2 t, .object C)) (hq : q < n) (hBq : B q = .inr (ci, vs)) (hc : vwCl[ci]? = some (C, T, N2)) (hx : x = nI i) (hi : i < N) (hN : N ≤ 256) (hd : decode cc pc = .ok (.aastore, 1)) (kk : BJ Z κ n (uB B r (rq (zE Z) t N (va_up f i (some ((zE Z).2.2 q))))) (pc + 1) L st) : BJ Z κ n B pc L (.ref ((zE Z).2.2 q) :: .int x :: .ref ((zE Z).2.2 r) :: st) := fun H locs ls a c d => by
  obtain ⟨h3, h4⟩ := vp_inA hx hi hN
  refine va_astq F.x F.b F.K a (bw_D X.1 X.A _ _) c r (3 + t) q ci (by rw [bw_get _ _ hr, hB]) ht (by rw [bw_get _ _ hq, hBq]) hc h3 hd (fun H1 locs1 a1 b1 c1 => ?_)
  rw [h4, bw_set] at a1
  exact kk H1 locs1 ls a1 c1 d
theorem bj_iast (F : ZF Z cc Ts own rm) (X : BX Z n0) {r N i : Nat} {f : Nat → Int32} {x v : Int32} (hr : r < n) (hB : B r = .inl ((zE Z).2.1.1, N, .inl f)) (hx : x = nI i) (hi : i < N) (hN : N ≤ 256) (hd : decode cc pc = .ok (.iastore, 1)) (kk : BJ Z κ n (uB B r (.inl ((zE Z).2.1.1, N, .inl (upd f i v)))) (pc + 1) L st) : BJ Z κ n B pc L (.int v :: .int x :: .ref ((zE Z).2.2 r) :: st) := fun H locs ls a c d => by
  obtain ⟨h3, h4⟩ := vp_inA hx hi hN
  refine va_iast F.x F.b F.K a (bw_D X.1 X.A _ _) c r 0 (by rw [bw_get _ _ hr, hB]) rfl h3 hd (fun H1 locs1 a1 b1 c1 => ?_)
  rw [h4, bw_set] at a1
  exact kk H1 locs1 ls a1 c1 d
end BR
/-- a constructor's contract: from n cells to n2 cells -/
def PC (E : Ee) (n : Nat) (B : Nat → va_E) (k : Nat) : Array Value → State → Prop := va_Pc [.ref (E.2.2 k)] (fun U => U.heap.size = E.2.2 n ∧ va_P E.1 vwCl (bw E n B) U.heap ∧ va_K E.1 vwCl (ltys E) U ∧ BO U)
def CtB (l : Launch) (E : Ee) (y : MethodName) (ws : List Cond) (rm : Room) (n : Nat) (B : Nat → va_E) (k mc ms n2 : Nat) (B2 : Nat → va_E) : Prop := Met l y ws rm (PC E n B k) (va_Qv (fun _ : Unit => True) (fun _ t => va_P E.1 vwCl (bw E n2 B2) t.heap) (fun q => E.2.2 0 ≤ q)) mc ms (fun q => E.2.2 0 ≤ q)
theorem pc_blind {E : Ee} {n k : Nat} {B : Nat → va_E} : FrameBlind (PC E n B k) := fun a U g mk q => by
  obtain ⟨q0, q1, qP, qK, q3⟩ := q
  exact ⟨q0, q1, qP, va_K.moved (u := U) (U := U.calling g mk a) (Vm.Alike.refl U.vm) qK, BO.same (u := U) (U := U.calling g mk a) rfl q3⟩
theorem bj_call {Z : Zt} {cc : ByteArray} {Ts : List Cond} {own : String} {rm : Room} {κ : Nat × Nat} {n0 n n2 q idx maxL mc ms : Nat} {B B2 : Nat → va_E} {pc : Nat} {L : List (Option Value)} {st : List Value} {y : MethodName} {bytes : ByteArray} {wsy wsy' : List Cond} {rmy : Room} (F : ZF Z cc Ts own rm) (X : BX Z n0) (hM : CtB (zl Z) (zE Z) y wsy rmy n B q mc ms n2 B2) (hG : GoodIn Ts wsy) (hw : wsy = Cond.code y bytes maxL none :: wsy') (hrc : rmy.cells = mc) (hrs : rmy.slots = ms) (hini : Cond.initialized y.cls ∈ Ts) (hlk : Cond.methodLink own idx y ∈ Ts) (hins : Cond.instanceMethod y ∈ Ts) (hy : y.name = "<init>") (hd0 : y.cls ≠ "java/lang/invoke/MethodHandle" ∧ y.cls ≠ "java/lang/invoke/VarHandle" ∧ (parseMethodDescriptor y.desc).map (fun d => d.parameters.length) = some 0) (hR : rmy.frames + 1 ≤ rm.frames ∧ 8 + (maxL + 11) + rmy.locals ≤ rm.locals) (h1 : 0 < n) (hn : n = n0 + κ.1) (hW : (st.map fun v => v.category).sum ≤ 8) (hro : κ.1 + mc ≤ rm.cells ∧ κ.2 + ms ≤ rm.slots) (hd : decode cc pc = .ok (.invokespecial idx, 3)) (k : BJ Z (κ.1 + mc, κ.2 + ms) n2 B2 (pc + 3) L st) : BJ Z κ n B pc L (.ref ((zE Z).2.2 q) :: st) := fun H locs ls a c d => by
  intro T1 hT1 X1
  have hz : H.size = (zE Z).2.2 n := by
    have u1 : T1.heap.size ≤ (zs Z).heap.size + κ.1 := X1.heapSize
    rw [hT1, X.2.1] at u1
    have u2 : (zE Z).2.2 (n - 1) < H.size := (a (n - 1) _ (bw_get (zE Z) B (show n - 1 < n by omega))).lt
    have u3 := X.1 n0
    have u4 := X.1 n
    have u5 := X.1 (n - 1)
    omega
  obtain ⟨-, -, hA, o1⟩ := X
  refine va_callv (va_runI (As := []) (rest := st) F.1 hM (cwI 0 F.hts hG hw hrc hrs (F.hts _ hini) (F.hts _ hlk) (F.hts _ hins) hy hd0 (by rw [F.R]; exact hR)) ⟨pc_blind, fun U hU hW1 => ⟨rfl, by rw [hU]; exact hz, by rw [hU]; exact a, va_K.moved hW1.alike F.K, o1.warm hW1⟩⟩ rfl rfl d.1 rfl (lv_room hW) hd (by rw [F.R]; exact hro)) c (fun q _ h => by rw [hA]; exact h) (fun q h => by rw [hA]; exact h) (fun u t H1 locs1 ht hvm hw1 hB hz1 hk1 hS => ?_) T1 hT1 X1
  rw [ht] at hB
  exact k H1 locs1 ls hB hS d
theorem bj_callN {Z : Zt} {cc : ByteArray} {Ts : List Cond} {own : String} {rm : Room} {κ : Nat × Nat} {n0 n n2 q idx maxL mc ms : Nat} {B B2 : Nat → va_E} {pc : Nat} {L : List (Option Value)} {st : List Value} {y : MethodName} {bytes : ByteArray} {wsy wsy' : List Cond} {rmy : Room} (F : ZF Z cc Ts own rm) (X : BX Z n0) (hM : CtB (zl Z) (zE Z) y wsy rmy n B q mc ms n2 B2) (hG : GoodIn Ts wsy) (hw : wsy = Cond.code y bytes maxL none :: wsy') (hrc : rmy.cells = mc) (hrs : rmy.slots = ms) (hini : Cond.initialized y.cls ∈ Ts) (hlk : (own, idx, y) ∈ nwA) (hins : Cond.instanceMethod y ∈ Ts) (hy : y.name = "<init>") (hd0 : y.cls ≠ "java/lang/invoke/MethodHandle" ∧ y.cls ≠ "java/lang/invoke/VarHandle" ∧ (parseMethodDescriptor y.desc).map (fun d => d.parameters.length) = some 0) (hR : rmy.frames + 1 ≤ rm.frames ∧ 8 + (maxL + 11) + rmy.locals ≤ rm.locals) (h1 : 0 < n) (hn : n = n0 + κ.1) (hW : (st.map fun v => v.category).sum ≤ 8) (hro : κ.1 + mc ≤ rm.cells ∧ κ.2 + ms ≤ rm.slots) (hd : decode cc pc = .ok (.invokespecial idx, 3)) (k : BJ Z (κ.1 + mc, κ.2 + ms) n2 B2 (pc + 3) L st) : BJ Z κ n B pc L (.ref ((zE Z).2.2 q) :: st) := fun H locs ls a c d => by
  intro T1 hT1 X1
  have hz : H.size = (zE Z).2.2 n := by
    have u1 : T1.heap.size ≤ (zs Z).heap.size + κ.1 := X1.heapSize
    rw [hT1, X.2.1] at u1
    have u2 : (zE Z).2.2 (n - 1) < H.size := (a (n - 1) _ (bw_get (zE Z) B (show n - 1 < n by omega))).lt
    have u3 := X.1 n0
    have u4 := X.1 n
    have u5 := X.1 (n - 1)
    omega
  obtain ⟨-, -, hA, o1⟩ := X
  refine va_callv (va_runIN (As := []) (rest := st) F.1 hM ⟨va_cnB 0 F.hts hG hw hrc hrs (o1.2.2.2 _ hlk) (F.hts _ hini) hd0 (by rw [F.R]; exact hR), hy, F.hts _ hins⟩ ⟨pc_blind, fun U hU hW1 => ⟨rfl, by rw [hU]; exact hz, by rw [hU]; exact a, va_K.moved hW1.alike F.K, o1.warm hW1⟩⟩ rfl rfl d.1 rfl (lv_room hW) hd (by rw [F.R]; exact hro)) c (fun q _ h => by rw [hA]; exact h) (fun q h => by rw [hA]; exact h) (fun u t H1 locs1 ht hvm hw1 hB hz1 hk1 hS => ?_) T1 hT1 X1
  rw [ht] at hB
  exact k H1 locs1 ls hB hS d
theorem ctB_of {l : Launch} {E : Ee} {y : MethodName} {ws ws' : List Cond} {rm : Room} {n n2 k mc ms : Nat} {B B2 : Nat → va_E} {cc : ByteArray} {maxL : Nat} (hL : Ln E) (hy : plainName y.cls = true) (hnm : y.name = "<init>") (hw : ws = Cond.code y cc maxL none :: ws') (hav : 1 ≤ maxL) {L0 : List (Option Value)} (hL0 : lq_pr 0 L0 = lv_args 0 [.ref (E.2.2 k)])
    (body : ∀ Z : Zt, zl Z = l → zE Z = E → zn Z = maxL → ZF Z cc ws y.cls rm → BX Z n → (zt Z).name = "<init>" → (∀ (pc : Nat) (L : List (Option Value)), decode cc pc = .ok (.return_, 1) → BJ Z (mc, ms) n2 B2 pc L []) → BJ Z (0, 0) n B 0 L0 []) : CtB l E y ws rm n B k mc ms n2 B2 := by
  refine Met.ofW (cc := cc) (maxL := maxL) (ret := none) hy hw ?_
  intro p e s m args below meth c s₁ B9 hml hv
  obtain ⟨rfl, hsz, hP, hK, o1⟩ := hv
  have hx := B9.exec
  have hb := B9.bytes
  have hr := B9.returns
  have hts := atoms_spec (ws := ws) B9.pre
  have hown : s.vm.findClass y.cls = some m.cls := findClass_of_methodNamed B9.named
  have hlocks := B9.notSynchronized
  have hin : meth.name = "<init>" := ((name_of_methodNamed B9.named B9.method).1).trans hnm
  have hl := lv_entry [Value.ref (E.2.2 k)] (n := maxL) hav
  rw [lg_entry_eq]
  generalize (lg_sl [Value.ref (E.2.2 k)] ++ List.replicate (maxL - (lg_sl [Value.ref (E.2.2 k)]).length) Slot.unset).toArray = ls at hl ⊢
  rw [← hL0] at hl
  refine body ((p, l, e, (headSpec ws rm).room, s, m, [Value.ref (E.2.2 k)].toArray, below, meth, c), (E, (fun q => E.2.2 0 ≤ q), s.heap, MQ below (va_Qv (fun _ : Unit => True) (fun _ t => va_P E.1 vwCl (bw E n2 B2) t.heap) (fun q => E.2.2 0 ≤ q)) [Value.ref (E.2.2 k)].toArray s mc ms (fun q => E.2.2 0 ≤ q), maxL)) rfl rfl rfl ⟨⟨hx, hb, hml, hown, hts⟩, hK, fun q h => ?_, rfl, fun j hj => ?_⟩ ⟨hL, hsz, rfl, o1⟩ hin ?_ s.heap [] ls hP va_S.rf (lq_of hl)
  · have h : s.heap.size ≤ q := h
    rw [hsz] at h
    have := hL n
    show E.2.2 0 ≤ q
    omega
  · have := hL j
    show E.2.2 0 ≤ E.2.2 j
    omega
  · intro pc L hd H locs ls a c d
    exact W.vret hx hb hr (fun t ht hW => ⟨⟨(), rfl, trivial, by show va_P E.1 vwCl (bw E n2 B2) t.heap; rw [ht]; exact a⟩, c.F ht⟩) c.2.2 hd
theorem tz_0 : (fun _ => 0 : Nat → Int32) = (fun j => if j < 0 then -1 else 0) := by simp
theorem tz_up {i : Nat} : upd (fun j => if j < i then -1 else 0 : Nat → Int32) i (-1) = (fun j => if j < i + 1 then -1 else 0) := by
  funext j
  by_cases h : j = i
  · subst h
    simp [upd]
  · by_cases h2 : j < i
    · simp [upd, h, h2, show j < i + 1 by omega]
    · simp [upd, h, h2, show ¬ j < i + 1 by omega]
/-- the memory of a new board and a new reference -/
def M0 : Mm := (fun k => if k = 206 ∨ k = 331 then (fun _ => -1) else if 191 ≤ k ∧ k < 203 then rowsOf (rect 256 256) else if k = 1 then (fun j => if j = 6 then -1 else 0) else (fun _ => 0), fun _ _ => 0)
theorem M0z {k : Nat} (h : k ≠ 206 ∧ k ≠ 331 ∧ ¬ (191 ≤ k ∧ k < 203) ∧ k ≠ 1) : M0.1 k = fun _ => 0 := by
  obtain ⟨h1, h2, h3, h4⟩ := h
  simp only [M0]
  rw [if_neg (by omega), if_neg h3, if_neg h4]
theorem M0r : ∀ y, y < 16 → rowsOf (rect 256 256) y = 0 := by decide +kernel
theorem M0q {k : Nat} (h : 191 ≤ k ∧ k < 203) : M0.1 k = rowsOf (rect 256 256) := by
  simp only [M0]
  rw [if_neg (by omega), if_pos h]
theorem M0t {k : Nat} (h : k = 206 ∨ k = 331) : M0.1 k = fun _ => -1 := by
  simp only [M0]
  rw [if_pos h]
theorem M01 : M0.1 1 = fun j => if j = 6 then -1 else 0 := by
  simp only [M0]
  rw [if_neg (by omega), if_neg (by omega), if_pos trivial]
theorem bj_n {Z : Zt} {κ : Nat × Nat} {n n2 : Nat} {B : Nat → va_E} {pc : Nat} {L : List (Option Value)} {st : List Value} (h : n = n2) (k : BJ Z κ n2 B pc L st) : BJ Z κ n B pc L st := h ▸ k
