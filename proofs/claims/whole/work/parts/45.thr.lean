/-! throws: contracts of methods that throw, the rows of a throw -/
def eIA : String := "java/lang/IllegalArgumentException"
def eIS : String := "java/lang/IllegalStateException"
def eIX : String := "java/lang/IndexOutOfBoundsException"
def eNm : List String := ["java/lang/RuntimeException", "java/lang/Exception"]
/-- the texts of the board's throws, by their places -/
def strs : List (Nat × String) := [(80, "ticks is not 1 to 1000"), (88, "the tick would be greater than 100000"), (91, "code is not 33 to 126"), (96, "the buffer has 40 characters"), (116, "fade is not 0 to 999"), (145, "kind is not 0 to 2"), (175, "the user has no active operation"), (183, "the user has no operation that can be redone"), (188, "ticks is not 1 to 999"), (242, "ticks is not 0 to 1000"), (251, "what is not 0 to 9"), (259, "what is not 0 to 10"), (264, "what is not 0 to 4"), (282, "the user does not exist"), (285, "the layer does not exist"), (287, "the cell does not exist"), (289, "mark is not 0 to 5"), (291, "the operation does not exist"), (293, "color is not 1 to 9"), (299, "the buffer is not the complete text of a path"), (301, "there are 60 operations"), (303, "the mark is not set")]
/-- the words of the throws that aren't good ones -/
def xwA : List Cond := (vx_atS RX8 82 eIA eNm ++ (vx_atS RX8 90 eIS eNm ++ vx_atS RX8 284 eIX eNm)).filter (fun w => !goodWord w)
set_option maxRecDepth 100000 in
theorem xwA_ok : ∀ w ∈ xwA, w.onTables = true ∧ w.faceAtom = true := by
  have h : xwA.all (fun w => w.onTables && w.faceAtom) = true := by decide +kernel
  intro w hw
  have h2 := List.all_eq_true.mp h w hw
  rw [Bool.and_eq_true] at h2
  exact h2
theorem xw_moved {w : Cond} (hw : w ∈ xwA) {s U : State} (hvm : s.vm.Alike U.vm) {A A2 : Array Value} (h : w.before A s = true) : w.before A2 U = true := va_tabs (xwA_ok w hw).1 (u := s.setVm U.vm) rfl (Cond.faceAtom_setVm hvm w (xwA_ok w hw).2 h)
def TX (E : Ee) (sz : Nat) (U : State) : Prop := vx_Zq Bundle.tN "UNASSIGNED_STACK" Bundle.steD (AA E sz) U U.heap ∧ vx_Zq Bundle.tN "SUPPRESSED_SENTINEL" Bundle.listD (AA E sz) U U.heap ∧ (∀ q ∈ strs, ∃ a, vk_R RX8 q.1 q.2 a U) ∧ (∀ w ∈ xwA, w.before #[] U = true) ∧ va_Nc eIA eIX U ∧ va_Nc eIS eIX U ∧ va_Nc eIS eIA U
def PX (E : Ee) (M : Mm) (sz : Nat) (av : List Value) : Array Value → State → Prop := va_Pc av (fun U => U.heap.size = sz ∧ GB E (fun _ => True) M U ∧ TX E sz U)
/-- the method throws an object of the class cls -/
def CtT (l : Launch) (E : Ee) (y : MethodName) (ws : List Cond) (rm : Room) (M : Mm) (av : List Value) (cls : String) (post : Mm → Prop) : Prop := ∀ sz, vx_Met l y ws rm (PX E M sz av) (fun _ _ _ _ => False) (vx_X post (fun e u t => e = cls ∧ GB E (AA E sz) u t) (AA E sz)) 1 6 (AA E sz)
theorem TX_call {E : Ee} {sz : Nat} {s U : State} {A : Nat → Prop} {H : Heap} {locs : List Loc} (h : TX E sz s) (hsz : s.heap.size = sz) (hA : A = AA E sz) (hS : va_S A s.heap H locs) (hU : U.heap = H) (hW : s.WarmedH U.vm) : TX E H.size U := by
  subst hA
  obtain ⟨z1, z2, z3, z4, z5, z6, z7⟩ := h
  have hn : ∀ q, AA E H.size q → AA E sz q := fun q hq => by
    rcases hq with hq | hq
    · exact Or.inl hq
    · exact Or.inr (by have := hS.1; omega)
  refine ⟨?_, ?_, fun q hq => ?_, fun w hw => xw_moved hw hW.alike (z4 w hw), z5.moved hW.alike, z6.moved hW.alike, z7.moved hW.alike⟩
  · rw [hU]; exact vx_Zq.moved hW.alike ((z1.kept hS.2.1).narrow hn)
  · rw [hU]; exact vx_Zq.moved hW.alike ((z2.kept hS.2.1).narrow hn)
  · obtain ⟨a, ha⟩ := z3 q hq
    exact ⟨a, vk_R.warm hW ha⟩
theorem px_blind {E : Ee} {M : Mm} {sz : Nat} {av : List Value} : FrameBlind (PX E M sz av) := fun a U g mk q => by
  obtain ⟨h1, h2, ⟨hP, hK, hD⟩, z1, z2, z3, z4, z5, z6, z7⟩ := q
  exact ⟨h1, h2, ⟨hP, va_K.moved (u := U) (U := U.calling g mk a) (Vm.Alike.refl U.vm) hK, hD⟩, vx_Zq.moved (U := U.calling g mk a) (Vm.Alike.refl U.vm) z1, vx_Zq.moved (U := U.calling g mk a) (Vm.Alike.refl U.vm) z2, fun q hq => by
    obtain ⟨b, hb⟩ := z3 q hq
    exact ⟨b, vk_R.same rfl hb⟩, fun w hw => xw_moved hw (U := U.calling g mk a) (Vm.Alike.refl U.vm) (z4 w hw), z5.moved (U := U.calling g mk a) (Vm.Alike.refl U.vm), z6.moved (U := U.calling g mk a) (Vm.Alike.refl U.vm), z7.moved (U := U.calling g mk a) (Vm.Alike.refl U.vm)⟩
/-- the facts of a machine at a method that throws -/
def XF (Z : Zt) (cls : String) (post : Mm → Prop) : Prop := zQ Z = vx_MQ (zb Z) (fun _ _ _ _ => False) (vx_X post (fun e u t => e = cls ∧ GB (zE Z) (AA (zE Z) (zs Z).heap.size) u t) (AA (zE Z) (zs Z).heap.size)) (za Z) (zs Z) 1 6 (AA (zE Z) (zs Z).heap.size) ∧ zA Z = AA (zE Z) (zs Z).heap.size ∧ zH Z = (zs Z).heap ∧ TX (zE Z) (zs Z).heap.size (zs Z) ∧ (∀ x ∈ (zc Z).exceptionTable.toList, False) ∧ (zt Z).locks = false ∧ (zl Z).stackTraces = false
theorem ctT_of {l : Launch} {E : Ee} {y : MethodName} {ws ws' : List Cond} {rm : Room} {M : Mm} {av : List Value} {cls : String} {post : Mm → Prop} {cc : ByteArray} {maxL : Nat} {ret : Option FieldType} (hst : l.stackTraces = false) (hy : plainName y.cls = true) (hw : ws = Cond.code y cc maxL ret :: ws') (hav : (lg_sl av).length ≤ maxL) {L0 : List (Option Value)} (hL : lq_pr 0 L0 = lv_args 0 av)
    (body : ∀ Z : Zt, zl Z = l → zE Z = E → zn Z = maxL → ZF Z cc ws y.cls rm → XF Z cls post → JJ Z (0, 0) M 0 L0 []) : CtT l E y ws rm M av cls post := by
  intro sz
  refine vx_ofW (cc := cc) (maxL := maxL) (ret := ret) hy hw ?_
  intro p e s m args below meth c s₁ B hml hxt hv
  obtain ⟨rfl, hsz, ⟨hP, hK, hD0⟩, hTX⟩ := hv
  have hx := B.exec
  have hb := B.bytes
  have hts := atoms_spec (ws := ws) B.pre
  have hown : s.vm.findClass y.cls = some m.cls := findClass_of_methodNamed B.named
  have hlocks := B.notSynchronized
  subst hsz
  have hl := lv_entry av (n := maxL) hav
  rw [lg_entry_eq]
  generalize (lg_sl av ++ List.replicate (maxL - (lg_sl av).length) Slot.unset).toArray = ls at hl ⊢
  rw [← hL] at hl
  exact body ((p, l, e, (headSpec ws rm).room, s, m, av.toArray, below, meth, c), (E, AA E s.heap.size, s.heap, vx_MQ below (fun _ _ _ _ => False) (vx_X post (fun e u t => e = cls ∧ GB E (AA E s.heap.size) u t) (AA E s.heap.size)) av.toArray s 1 6 (AA E s.heap.size), maxL)) rfl rfl rfl ⟨⟨hx, hb, hml, hown, hts⟩, hK, fun q h => Or.inr h, rfl, fun k hk => Or.inl ⟨k, hk, rfl⟩⟩ ⟨rfl, rfl, rfl, hTX, hxt, hlocks, hst⟩ s.heap [] ls hP (aa_D hD0) va_S.rf (lq_of hl)
theorem gl_ot {w : Cond} (h : w ∈ gl) : vx_ot w = true := by
  have := (List.mem_filter.mp h).2
  simp [vx_ot, this]
theorem gl_ot3 {ik ic : Nat} {cls : String} (hk : Cond.classLink RX8 ik cls ∈ gl) (hini : Cond.initialized cls ∈ gl) (hat : ∀ w ∈ vx_atS RX8 ic cls eNm, w ∈ gl ∨ w ∈ xwA) : ∀ w ∈ Cond.classLink RX8 ik cls :: Cond.initialized cls :: vx_atS RX8 ic cls eNm, vx_ot w = true := fun w hw => by
  rcases List.mem_cons.mp hw with rfl | hw
  · exact gl_ot hk
  · rcases List.mem_cons.mp hw with rfl | hw
    · exact gl_ot hini
    · rcases hat w hw with h | h
      · exact gl_ot h
      · simp [vx_ot, (xwA_ok w h).1]
theorem jj_throwS {Z : Zt} {cc : ByteArray} {rm : Room} {M : Mm} {pc : Nat} {L : List (Option Value)} {st : List Value} {cx : Cond} {cls : String} {post : Mm → Prop} (F : ZF Z cc (cx :: gl) RX8 rm) (X : XF Z cls post) {ik is ic : Nat} {text : String} (hcls : Bundle.fit cls = true) (hk : Cond.classLink RX8 ik cls ∈ gl) (hini : Cond.initialized cls ∈ gl) (hat : ∀ w ∈ vx_atS RX8 ic cls eNm, w ∈ gl ∨ w ∈ xwA) (hstr : (is, text) ∈ strs) (d0 : decode cc pc = .ok (.new ik, 3)) (d3 : decode cc (pc + 3) = .ok (.dup, 1)) (d4 : decode cc (pc + 4) = .ok (.ldc is, 2)) (d6 : decode cc (pc + 6) = .ok (.invokespecial ic, 3)) (d9 : decode cc (pc + 9) = .ok (.athrow, 1)) (hfr : 5 < rm.frames) (hlo : (st.map fun v => v.category).sum + 82 ≤ rm.locals) (hce : 1 ≤ rm.cells) (hsl : 6 ≤ rm.slots) (hp : post M) : JJ Z (0, 0) M pc L st := by
  obtain ⟨⟨p, l, e, R, s, m, args, below, meth, c0⟩, E, A, H0, Q, nL⟩ := Z
  obtain ⟨hQ0, hA0, hH0, hTX, hxt, hlk, hst0⟩ := X
  have hRR : R = rm := F.R
  have hQ : Q = vx_MQ below (fun _ _ _ _ => False) (vx_X post (fun e u t => e = cls ∧ GB E (AA E s.heap.size) u t) (AA E s.heap.size)) args s 1 6 (AA E s.heap.size) := hQ0
  have hA : A = AA E s.heap.size := hA0
  have hH : H0 = s.heap := hH0
  clear hQ0 hA0 hH0
  subst hRR hQ hA hH
  intro H locs ls a b c d
  obtain ⟨z1, z2, z3, z4, -⟩ := hTX
  obtain ⟨sa, hsa⟩ := z3 _ hstr
  exact vx_throwS F.x F.b hst0 (own := RX8) (cls := cls) (text := text) (names := eNm) (ik := ik) (is := is) (ic := ic) (sa := sa) (A := AA E s.heap.size) F.ow hcls (by decide) (F.hts _ (List.mem_cons_of_mem _ hk)) (F.hts _ (List.mem_cons_of_mem _ hini)) hsa (fun w hw => (hat w hw).elim (fun h => F.hts w (List.mem_cons_of_mem _ h)) (fun h => xw_moved h (Vm.Alike.refl _) (z4 w h))) (gl_ot3 hk hini hat) z1 z2 c (d.1.trans F.ml.symm) d0 d3 d4 d6 d9 (fun x hx => (hxt x hx).elim) hfr hlo hce hsl hlk (fun t hvm hsz hkp => ⟨M, hp, ⟨rfl, va_P.kept a (fun k q hk => hkp _ (vx_lt a hk)), va_K.moved hvm F.K, b⟩, ⟨Nat.le_trans c.1 hsz, fun q h1 h2 => by rw [hkp q (Nat.lt_of_lt_of_le h1 c.1)]; exact c.2.1 q h1 h2⟩⟩) (fun z hz => c.2.2 z hz) (Nat.le_refl _) (Nat.le_refl _)
theorem jj_throwSW {Z : Zt} {cc : ByteArray} {rm : Room} {M : Mm} {pc : Nat} {L : List (Option Value)} {st : List Value} {cx : Cond} {cls : String} {post : Mm → Prop} (F : ZF Z cc (cx :: gl) RX8 rm) (X : XF Z cls post) {ik is ic : Nat} {text : String} (hcls : Bundle.fit cls = true) (hk : Cond.classLink RX8 ik cls ∈ gl) (hini : Cond.initialized cls ∈ gl) (hat : ∀ w ∈ vx_atS RX8 ic cls eNm, w ∈ gl ∨ w ∈ xwA) (hstr : (is, text) ∈ strs) (d0 : decode cc pc = .ok (.new ik, 3)) (d3 : decode cc (pc + 3) = .ok (.dup, 1)) (d4 : decode cc (pc + 4) = .ok (.ldc_w is, 3)) (d6 : decode cc (pc + 7) = .ok (.invokespecial ic, 3)) (d9 : decode cc (pc + 10) = .ok (.athrow, 1)) (hfr : 5 < rm.frames) (hlo : (st.map fun v => v.category).sum + 82 ≤ rm.locals) (hce : 1 ≤ rm.cells) (hsl : 6 ≤ rm.slots) (hp : post M) : JJ Z (0, 0) M pc L st := by
  obtain ⟨⟨p, l, e, R, s, m, args, below, meth, c0⟩, E, A, H0, Q, nL⟩ := Z
  obtain ⟨hQ0, hA0, hH0, hTX, hxt, hlk, hst0⟩ := X
  have hRR : R = rm := F.R
  have hQ : Q = vx_MQ below (fun _ _ _ _ => False) (vx_X post (fun e u t => e = cls ∧ GB E (AA E s.heap.size) u t) (AA E s.heap.size)) args s 1 6 (AA E s.heap.size) := hQ0
  have hA : A = AA E s.heap.size := hA0
  have hH : H0 = s.heap := hH0
  clear hQ0 hA0 hH0
  subst hRR hQ hA hH
  intro H locs ls a b c d
  obtain ⟨z1, z2, z3, z4, -⟩ := hTX
  obtain ⟨sa, hsa⟩ := z3 _ hstr
  exact vx_throwSW F.x F.b hst0 (own := RX8) (cls := cls) (text := text) (names := eNm) (ik := ik) (is := is) (ic := ic) (sa := sa) (A := AA E s.heap.size) F.ow hcls (by decide) (F.hts _ (List.mem_cons_of_mem _ hk)) (F.hts _ (List.mem_cons_of_mem _ hini)) hsa (fun w hw => (hat w hw).elim (fun h => F.hts w (List.mem_cons_of_mem _ h)) (fun h => xw_moved h (Vm.Alike.refl _) (z4 w h))) (gl_ot3 hk hini hat) z1 z2 c (d.1.trans F.ml.symm) d0 d3 d4 d6 d9 (fun x hx => (hxt x hx).elim) hfr hlo hce hsl hlk (fun t hvm hsz hkp => ⟨M, hp, ⟨rfl, va_P.kept a (fun k q hk => hkp _ (vx_lt a hk)), va_K.moved hvm F.K, b⟩, ⟨Nat.le_trans c.1 hsz, fun q h1 h2 => by rw [hkp q (Nat.lt_of_lt_of_le h1 c.1)]; exact c.2.1 q h1 h2⟩⟩) (fun z hz => c.2.2 z hz) (Nat.le_refl _) (Nat.le_refl _)
theorem jj_thrV {Z : Zt} {cc : ByteArray} {Ts : List Cond} {own : String} {rm : Room} {M : Mm} {pc : Nat} {L : List (Option Value)} {st stk As : List Value} {cls : String} {post post2 : Mm → Prop} {k ci na idx maxL N : Nat} {fl : List Nat} {C : String} {T : u_T} {y : MethodName} {bytes : ByteArray} {ret : Option FieldType} {wsy wsy' : List Cond} {rmy : Room} (F : ZF Z cc Ts own rm) (X : XF Z cls post) (hM : CtT (zl Z) (zE Z) y wsy rmy M (.ref ((zE Z).2.2 k) :: As) cls post2) (hG : GoodIn Ts (wsV own idx C y wsy)) (hw : wsy = Cond.code y bytes maxL ret :: wsy') (hrc : rmy.cells = 1) (hrs : rmy.slots = 6) (hd0 : y.cls = C ∧ y.cls ≠ "java/lang/invoke/MethodHandle" ∧ y.cls ≠ "java/lang/invoke/VarHandle" ∧ (parseMethodDescriptor y.desc).map (fun d => d.parameters.length) = some na) (hR : rmy.frames + 1 ≤ rm.frames ∧ 8 + (maxL + 11) + rmy.locals ≤ rm.locals) (hkd : kd k = .inl (ci, fl)) (hc : vwCl[ci]? = some (C, T, N)) (hna : As.length = na) (hst : stk = As.reverse ++ .ref ((zE Z).2.2 k) :: st) (hW : (st.map fun v => v.category).sum ≤ 8) (hro : 0 + 1 ≤ rm.cells ∧ 0 + 6 ≤ rm.slots) (hd : decode cc pc = .ok (.invokevirtual idx, 3)) (himp : ∀ M2, post2 M2 → post M2) : JJ Z (0, 0) M pc L stk := by
  obtain ⟨⟨p, l, e, R, s, m, args, below, meth, c0⟩, E, A, H0, Q, nL⟩ := Z
  obtain ⟨hQ0, hA0, hH0, hTX, hxt, hlk, hst0⟩ := X
  have hRR : R = rm := F.R
  have hQ : Q = vx_MQ below (fun _ _ _ _ => False) (vx_X post (fun e u t => e = cls ∧ GB E (AA E s.heap.size) u t) (AA E s.heap.size)) args s 1 6 (AA E s.heap.size) := hQ0
  have hA : A = AA E s.heap.size := hA0
  have hH : H0 = s.heap := hH0
  clear hQ0 hA0 hH0
  subst hRR hQ hA hH
  intro H locs ls a b c d
  have hrun := vx_runV (p := p) (l := l) (e := e) (R := R) (s := s) (m := m) (args := args) (below := below) (meth := meth) (c := c0) (H := H) (locs := locs) (cells := 0) (slots := 0) (g := F0 m pc ls stk) (rest := st) (As := As) F.1 (hM H.size) (cwV na F.hts hG hw hrc hrs hd0 hR) ⟨px_blind, va_recv F.K a hc (lw_at _ _ (kd_obj hkd) (lc_obj _ _ hkd)), fun U hU hW1 => ⟨rfl, by rw [hU], ⟨by rw [hU]; exact a, va_K.moved hW1.alike F.K, ⟨b.1, fun _ _ _ => trivial⟩⟩, TX_call hTX rfl rfl c hU hW1⟩⟩ rfl hna d.1 hst (lv_room hW) hd hro
  intro T hT XT
  rcases hrun T hT XT with ⟨v, st₀, t, T', L', h0, X', hL, e1, e2, hq, st9⟩ | ⟨q, st₀, t, T', L', E', ce, h0, X', hL, e1, e2, ⟨u, hp, ⟨hE, hB⟩, hF⟩, hce, hcv, hcl, st9⟩
  · exact hq.elim
  · obtain ⟨k1, k2, k3⟩ := vx_keep h0 e1 c (fun q _ h => zf_free F c q h) (zf_free F c) hL hF
    have ho := vx_out (p := p) (l := l) (e := e) (R := R) (s := s) (m := m) (args := args) (below := below) (meth := meth) (c := c0) (H := T'.heap) (locs := locs ++ L') (cells := 0 + 1) (slots := 0 + 6) (free := AA E s.heap.size) (Qc := fun _ _ _ _ => False) (XC := vx_X post (fun e u t => e = cls ∧ GB E (AA E s.heap.size) u t) (AA E s.heap.size)) (ls := ls) (rest := st) (pc := pc) (E := E') (ce := ce) (q := q) (mc := 1) (ms := 6) (fun x hx => (hxt x hx).elim) hlk (by rw [e1]; exact hce) hcv hcl (fun t2 ht hvm => ⟨u, himp u hp, ⟨hE, by rw [ht, e1]; exact hB.1, va_K.moved hvm F.K, aa_N F.N hB.2.2⟩, k3.F ht⟩) k3.2.2 (Nat.le_refl _) (Nat.le_refl _)
    obtain ⟨t2, a1, b1⟩ := ho T' rfl X'
    exact ⟨t2, st9.trans a1, b1⟩
theorem jj_thrS {Z : Zt} {cc : ByteArray} {Ts : List Cond} {own : String} {rm : Room} {M : Mm} {pc : Nat} {L : List (Option Value)} {st stk As : List Value} {cls : String} {post post2 : Mm → Prop} {na idx maxL : Nat} {y : MethodName} {bytes : ByteArray} {ret : Option FieldType} {wsy wsy' : List Cond} {rmy : Room} (F : ZF Z cc Ts own rm) (X : XF Z cls post) (hM : CtT (zl Z) (zE Z) y wsy rmy M As cls post2) (hG : GoodIn Ts (va_wsS own idx y wsy)) (hw : wsy = Cond.code y bytes maxL ret :: wsy') (hrc : rmy.cells = 1) (hrs : rmy.slots = 6) (hd0 : y.cls ≠ "java/lang/invoke/MethodHandle" ∧ y.cls ≠ "java/lang/invoke/VarHandle" ∧ (parseMethodDescriptor y.desc).map (fun d => d.parameters.length) = some na) (hR : rmy.frames + 1 ≤ rm.frames ∧ 8 + (maxL + 11) + rmy.locals ≤ rm.locals) (hna : As.length = na) (hst : stk = As.reverse ++ st) (hW : (st.map fun v => v.category).sum ≤ 8) (hro : 0 + 1 ≤ rm.cells ∧ 0 + 6 ≤ rm.slots) (hd : decode cc pc = .ok (.invokestatic idx, 3)) (himp : ∀ M2, post2 M2 → post M2) : JJ Z (0, 0) M pc L stk := by
  obtain ⟨⟨p, l, e, R, s, m, args, below, meth, c0⟩, E, A, H0, Q, nL⟩ := Z
  obtain ⟨hQ0, hA0, hH0, hTX, hxt, hlk, hst0⟩ := X
  have hRR : R = rm := F.R
  have hQ : Q = vx_MQ below (fun _ _ _ _ => False) (vx_X post (fun e u t => e = cls ∧ GB E (AA E s.heap.size) u t) (AA E s.heap.size)) args s 1 6 (AA E s.heap.size) := hQ0
  have hA : A = AA E s.heap.size := hA0
  have hH : H0 = s.heap := hH0
  clear hQ0 hA0 hH0
  subst hRR hQ hA hH
  intro H locs ls a b c d
  have hrun := vx_runS (p := p) (l := l) (e := e) (R := R) (s := s) (m := m) (args := args) (below := below) (meth := meth) (c := c0) (H := H) (locs := locs) (cells := 0) (slots := 0) (g := F0 m pc ls stk) (rest := st) (As := As) F.1 (hM H.size) (va_cwS na F.hts hG hw hrc hrs hd0 hR) ⟨px_blind, fun U hU hW1 => ⟨rfl, by rw [hU], ⟨by rw [hU]; exact a, va_K.moved hW1.alike F.K, ⟨b.1, fun _ _ _ => trivial⟩⟩, TX_call hTX rfl rfl c hU hW1⟩⟩ rfl hna d.1 hst (lv_room hW) hd hro
  intro T hT XT
  rcases hrun T hT XT with ⟨v, st₀, t, T', L', h0, X', hL, e1, e2, hq, st9⟩ | ⟨q, st₀, t, T', L', E', ce, h0, X', hL, e1, e2, ⟨u, hp, ⟨hE, hB⟩, hF⟩, hce, hcv, hcl, st9⟩
  · exact hq.elim
  · obtain ⟨k1, k2, k3⟩ := vx_keep h0 e1 c (fun q _ h => zf_free F c q h) (zf_free F c) hL hF
    have ho := vx_out (p := p) (l := l) (e := e) (R := R) (s := s) (m := m) (args := args) (below := below) (meth := meth) (c := c0) (H := T'.heap) (locs := locs ++ L') (cells := 0 + 1) (slots := 0 + 6) (free := AA E s.heap.size) (Qc := fun _ _ _ _ => False) (XC := vx_X post (fun e u t => e = cls ∧ GB E (AA E s.heap.size) u t) (AA E s.heap.size)) (ls := ls) (rest := st) (pc := pc) (E := E') (ce := ce) (q := q) (mc := 1) (ms := 6) (fun x hx => (hxt x hx).elim) hlk (by rw [e1]; exact hce) hcv hcl (fun t2 ht hvm => ⟨u, himp u hp, ⟨hE, by rw [ht, e1]; exact hB.1, va_K.moved hvm F.K, aa_N F.N hB.2.2⟩, k3.F ht⟩) k3.2.2 (Nat.le_refl _) (Nat.le_refl _)
    obtain ⟨t2, a1, b1⟩ := ho T' rfl X'
    exact ⟨t2, st9.trans a1, b1⟩
theorem xk_IA : Cond.classLink RX8 78 eIA ∈ gl := gl_tb (by decide +kernel) rfl
theorem xi_IA : Cond.initialized eIA ∈ gl := gl_tb (by decide +kernel) rfl
set_option maxRecDepth 100000 in
theorem xa_IA : ∀ w ∈ vx_atS RX8 82 eIA eNm, w ∈ gl ∨ w ∈ xwA := by
  have h : (vx_atS RX8 82 eIA eNm).all (fun w => decide (w ∈ tables_1) || decide (w ∈ k2_sels lw_privs)) = true := by decide +kernel
  intro w hw
  have h2 := List.all_eq_true.mp h w hw
  simp only [Bool.or_eq_true, decide_eq_true_eq] at h2
  cases hg : goodWord w with
  | true =>
    rcases h2 with h3 | h3
    · exact Or.inl (gl_tb h3 hg)
    · exact Or.inl (gl_pv h3 hg)
  | false => exact Or.inr (List.mem_filter.mpr ⟨List.mem_append_left _ hw, by rw [hg]; rfl⟩)
theorem xk_IS : Cond.classLink RX8 86 eIS ∈ gl := gl_tb (by decide +kernel) rfl
theorem xi_IS : Cond.initialized eIS ∈ gl := gl_tb (by decide +kernel) rfl
set_option maxRecDepth 100000 in
theorem xa_IS : ∀ w ∈ vx_atS RX8 90 eIS eNm, w ∈ gl ∨ w ∈ xwA := by
  have h : (vx_atS RX8 90 eIS eNm).all (fun w => decide (w ∈ tables_1) || decide (w ∈ k2_sels lw_privs)) = true := by decide +kernel
  intro w hw
  have h2 := List.all_eq_true.mp h w hw
  simp only [Bool.or_eq_true, decide_eq_true_eq] at h2
  cases hg : goodWord w with
  | true =>
    rcases h2 with h3 | h3
    · exact Or.inl (gl_tb h3 hg)
    · exact Or.inl (gl_pv h3 hg)
  | false => exact Or.inr (List.mem_filter.mpr ⟨List.mem_append_right _ (List.mem_append_left _ hw), by rw [hg]; rfl⟩)
theorem xk_IX : Cond.classLink RX8 280 eIX ∈ gl := gl_tb (by decide +kernel) rfl
theorem xi_IX : Cond.initialized eIX ∈ gl := gl_tb (by decide +kernel) rfl
set_option maxRecDepth 100000 in
theorem xa_IX : ∀ w ∈ vx_atS RX8 284 eIX eNm, w ∈ gl ∨ w ∈ xwA := by
  have h : (vx_atS RX8 284 eIX eNm).all (fun w => decide (w ∈ tables_1) || decide (w ∈ k2_sels lw_privs)) = true := by decide +kernel
  intro w hw
  have h2 := List.all_eq_true.mp h w hw
  simp only [Bool.or_eq_true, decide_eq_true_eq] at h2
  cases hg : goodWord w with
  | true =>
    rcases h2 with h3 | h3
    · exact Or.inl (gl_tb h3 hg)
    · exact Or.inl (gl_pv h3 hg)
  | false => exact Or.inr (List.mem_filter.mpr ⟨List.mem_append_right _ (List.mem_append_right _ hw), by rw [hg]; rfl⟩)
theorem wi_nle {x : Int32} {lo hi : Nat} (h : wiB x (nI lo) (nI hi) = false) (h1 : ¬ x < nI lo) : ¬ x ≤ nI hi := fun h2 => by
  unfold wiB at h
  rw [decide_eq_true (i32_nlt h1), decide_eq_true h2] at h
  cases h
theorem wi_nlt {x : Int32} {lo hi : Nat} (h : wiB x (nI lo) (nI hi) = false) (h1 : ¬ x < nI lo) (hb : hi + 1 < 2 ^ 31) : ¬ x < nI (hi + 1) := fun h2 => wi_nle h h1 (by
  rw [Int32.lt_iff_toInt_lt, nI_toInt (by omega)] at h2
  rw [Int32.le_iff_toInt_le, nI_toInt (by omega)]
  omega)
