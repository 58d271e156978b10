/-! the law's wrappers: methods with handlers, that return -/
def CtW (l : Launch) (E : Ee) (y : MethodName) (ws : List Cond) (rm : Room) (M : Mm) (av : List Value) (post : Int32 → Mm → Prop) : Prop := ∀ sz, vx_Met l y ws rm (PX E M sz av) (va_Qi post (GB E (AA E sz)) (AA E sz)) (fun _ _ _ => False) 1 6 (AA E sz)
/-- the facts of a machine at a wrapper -/
def WF (Z : Zt) (hh : List (Nat × Nat × Nat × Nat)) : Prop := zA Z = AA (zE Z) (zs Z).heap.size ∧ zH Z = (zs Z).heap ∧ TX (zE Z) (zs Z).heap.size (zs Z) ∧ (zc Z).exceptionTable.toList = tableOf hh
theorem ctW_of {l : Launch} {E : Ee} {y : MethodName} {ws ws' : List Cond} {rm : Room} {M : Mm} {av : List Value} {post : Int32 → Mm → Prop} {cc : ByteArray} {maxL : Nat} {ty : FieldType} {hh : List (Nat × Nat × Nat × Nat)} (hy : plainName y.cls = true) (hw : ws = Cond.codeWith y cc maxL (some ty) hh :: ws') (hav : (lg_sl av).length ≤ maxL) {L0 : List (Option Value)} (hL : lq_pr 0 L0 = lv_args 0 av)
    (body : ∀ Z : Zt, zl Z = l → zE Z = E → zn Z = maxL → ZF Z cc ws y.cls rm → WF Z hh → (∀ (pc : Nat) (r : Int32) (M2 : Mm) (L : List (Option Value)), decode cc pc = .ok (.ireturn, 1) → narrow ty (.int r) = .int r → post r M2 → JJ Z (1, 6) M2 pc L [.int r]) → JJ Z (0, 0) M 0 L0 []) : CtW l E y ws rm M av post := by
  intro sz
  refine vx_ofWH (cc := cc) (maxL := maxL) (ret := (some ty)) (hh := hh) hy hw ?_
  intro p e s m args below meth c s₁ B hml hv
  obtain ⟨rfl, hsz, ⟨hP, hK, hD0⟩, hTX⟩ := hv
  have hx := B.exec
  have hb := B.bytes
  have hr := B.returns
  have hts := atoms_spec (ws := ws) B.pre
  have htab := vx_table (x := y) B (hts (Cond.codeWith y cc maxL (some ty) hh) (by rw [hw]; exact List.mem_cons_self))
  have hown : s.vm.findClass y.cls = some m.cls := findClass_of_methodNamed B.named
  have hlocks := B.notSynchronized
  subst hsz
  have hl := lv_entry av (n := maxL) hav
  rw [lg_entry_eq]
  generalize (lg_sl av ++ List.replicate (maxL - (lg_sl av).length) Slot.unset).toArray = ls at hl ⊢
  rw [← hL] at hl
  refine body ((p, l, e, (headSpec ws rm).room, s, m, av.toArray, below, meth, c), (E, AA E s.heap.size, s.heap, vx_MQ below (va_Qi post (GB E (AA E s.heap.size)) (AA E s.heap.size)) (fun _ _ _ => False) av.toArray s 1 6 (AA E s.heap.size), maxL)) rfl rfl rfl ⟨⟨hx, hb, hml, hown, hts⟩, hK, fun q h => Or.inr h, rfl, fun k hk => Or.inl ⟨k, hk, rfl⟩⟩ ⟨rfl, rfl, hTX, htab⟩ ?_ s.heap [] ls hP (aa_D hD0) va_S.rf (lq_of hl)
  intro pc r M2 L hd hn hpost H locs ls a b c d
  exact vx_ret (W.zret hx hb hr hn (fun t ht hW => ⟨⟨r, M2, rfl, hpost, by rw [ht]; exact a, va_K.moved hW.alike hK, b⟩, c.F ht⟩) c.2.2 hd)
/-- a row of the table takes the class cls at pc -/
def CatchAt (own : String) (hh : List (Nat × Nat × Nat × Nat)) (pc hp : Nat) (cls : String) (Nc : String → String → Prop) : Prop := ∃ (pre : List ExceptionTableEntry) (x : ExceptionTableEntry) (suf : List ExceptionTableEntry), tableOf hh = pre ++ x :: suf ∧ (∀ z ∈ pre, covers z pc = false ∨ (z.catchType ≠ 0 ∧ ∃ nm : String, Cond.classLink own z.catchType nm ∈ gl ∧ Nc cls nm)) ∧ covers x pc = true ∧ x.catchType ≠ 0 ∧ Cond.classLink own x.catchType cls ∈ gl ∧ x.handlerPc = hp
/-- the pairs of classes of which the first isn't the second -/
def NcP (a b : String) : Prop := (a = eIA ∧ b = eIX) ∨ (a = eIS ∧ b = eIX) ∨ (a = eIS ∧ b = eIA)
theorem NcP_of {E : Ee} {sz : Nat} {s : State} (h : TX E sz s) {a b : String} (n : NcP a b) : va_Nc a b s := by
  obtain ⟨-, -, -, -, z5, z6, z7⟩ := h
  rcases n with ⟨rfl, rfl⟩ | ⟨rfl, rfl⟩ | ⟨rfl, rfl⟩
  · exact z5
  · exact z6
  · exact z7
theorem jj_catV {Z : Zt} {cc : ByteArray} {cx : Cond} {own : String} {rm : Room} {M : Mm} {pc : Nat} {L : List (Option Value)} {st stk As : List Value} {cls : String} {post2 : Mm → Prop} {k ci na idx maxL N hp : Nat} {fl : List Nat} {C : String} {T : u_T} {y : MethodName} {bytes : ByteArray} {ret : Option FieldType} {wsy wsy' : List Cond} {rmy : Room} {hh : List (Nat × Nat × Nat × Nat)} (F : ZF Z cc (cx :: gl) own rm) (X : WF Z hh) (hcat : CatchAt own hh pc hp cls NcP) (hcst : Cond.castable cls cls ∈ xwA) (hM : CtT (zl Z) (zE Z) y wsy rmy M (.ref ((zE Z).2.2 k) :: As) cls post2) (hG : GoodIn (cx :: gl) (wsV own idx C y wsy)) (hw : wsy = Cond.code y bytes maxL ret :: wsy') (hrc : rmy.cells = 1) (hrs : rmy.slots = 6) (hd0 : y.cls = C ∧ y.cls ≠ "java/lang/invoke/MethodHandle" ∧ y.cls ≠ "java/lang/invoke/VarHandle" ∧ (parseMethodDescriptor y.desc).map (fun d => d.parameters.length) = some na) (hR : rmy.frames + 1 ≤ rm.frames ∧ 8 + (maxL + 11) + rmy.locals ≤ rm.locals) (hkd : kd k = .inl (ci, fl)) (hc : vwCl[ci]? = some (C, T, N)) (hna : As.length = na) (hst : stk = As.reverse ++ .ref ((zE Z).2.2 k) :: st) (hW : (st.map fun v => v.category).sum ≤ 8) (hro : 0 + 1 ≤ rm.cells ∧ 0 + 6 ≤ rm.slots) (hd : decode cc pc = .ok (.invokevirtual idx, 3)) (kk : ∀ (M2 : Mm) (q : Nat), post2 M2 → JJ Z (1, 6) M2 hp L [.ref q]) : JJ Z (0, 0) M pc L stk := by
  obtain ⟨⟨p, l, e, R, s, m, args, below, meth, c0⟩, E, A, H0, Q, nL⟩ := Z
  obtain ⟨hA0, hH0, hTX, htab⟩ := X
  have hRR : R = rm := F.R
  have hA : A = AA E s.heap.size := hA0
  have hH : H0 = s.heap := hH0
  clear hA0 hH0
  subst hRR hA hH
  intro H locs ls a b c d
  have hrun := vx_runV (p := p) (l := l) (e := e) (R := R) (s := s) (m := m) (args := args) (below := below) (meth := meth) (c := c0) (H := H) (locs := locs) (cells := 0) (slots := 0) (g := F0 m pc ls stk) (rest := st) (As := As) F.1 (hM H.size) (cwV na F.hts hG hw hrc hrs hd0 hR) ⟨px_blind, va_recv F.K a hc (lw_at _ _ (kd_obj hkd) (lc_obj _ _ hkd)), fun U hU hW1 => ⟨rfl, by rw [hU], ⟨by rw [hU]; exact a, va_K.moved hW1.alike F.K, ⟨b.1, fun _ _ _ => trivial⟩⟩, TX_call hTX rfl rfl c hU hW1⟩⟩ rfl hna d.1 hst (lv_room hW) hd hro
  intro T hT XT
  rcases hrun T hT XT with ⟨v, st₀, t, T', L', h0, X', hL, e1, e2, hq, st9⟩ | ⟨q, st₀, t, T', L', E', ce, h0, X', hL, e1, e2, ⟨u, hpu, ⟨hE, hB⟩, hF⟩, hce, hcv, hcl, st9⟩
  · exact hq.elim
  · obtain ⟨k1, k2, k3⟩ := vx_keep h0 e1 c (fun q _ h => zf_free F c q h) (zf_free F c) hL hF
    obtain ⟨pre, x, suf, t1, t2, t3, t4, t5, t6⟩ := hcat
    subst hE
    have kw : zW ((p, l, e, R, s, m, args, below, meth, c0), (E, AA E s.heap.size, s.heap, Q, nL)) T'.heap (locs ++ L') (1, 6) (F0 m hp ls [.ref q]) := kk u q hpu T'.heap (locs ++ L') ls (by rw [e1]; exact hB.1) (aa_N F.N hB.2.2) k3 d
    have ho := vx_catch (p := p) (l := l) (e := e) (R := R) (s := s) (m := m) (args := args) (below := below) (meth := meth) (c := c0) (H := T'.heap) (locs := locs ++ L') (cells := 0 + 1) (slots := 0 + 6) (Q := Q) (ls := ls) (rest := st) (pc := pc) (own := own) (name := E') (E := E') (ce := ce) (q := q) F.ow pre x suf (htab.trans t1) (fun z hz => (t2 z hz).elim Or.inl (fun h => Or.inr ⟨h.1, h.2.choose, F.hts _ (List.mem_cons_of_mem _ h.2.choose_spec.1), NcP_of hTX h.2.choose_spec.2⟩)) t3 t4 (F.hts _ (List.mem_cons_of_mem _ t5)) (xw_moved hcst (Vm.Alike.refl _) (hTX.2.2.2.1 _ hcst)) (by rw [e1]; exact hce) hcv hcl (by rw [t6]; exact kw)
    obtain ⟨t2, a1, b1⟩ := ho T' rfl X'
    exact ⟨t2, st9.trans a1, b1⟩
