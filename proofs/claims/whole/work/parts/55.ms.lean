/-! meanStrength on both sides -/
def CtD (l : Launch) (E : Ee) (y : MethodName) (ws : List Cond) (rm : Room) (M : Mm) (av : List Value) (mc ms : Nat) (post : UInt64 → Mm → Prop) : Prop := ∀ sz, Met l y ws rm (PB E M sz av) (va_Qd post (GB E (AA E sz)) (AA E sz)) mc ms (AA E sz)
section JD
variable {Z : Zt} {cc : ByteArray} {Ts : List Cond} {own : String} {rm : Room} {κ : Nat × Nat} {M : Mm} {pc : Nat} {L : List (Option Value)} {st stk : List Value}
variable {y : MethodName} {wsy wsy' : List Cond} {rmy : Room} {bytes : ByteArray} {maxL idx ci k mc ms na : Nat} {ret : Option FieldType} {As : List Value} {C : String} {T : u_T} {N : Nat} {fl : List Nat}
theorem jj_callVd (F : ZF Z cc Ts own rm) {post : UInt64 → Mm → Prop} (hM : CtD (zl Z) (zE Z) y wsy rmy M (.ref ((zE Z).2.2 k) :: As) mc ms post) (hG : GoodIn Ts (wsV own idx C y wsy)) (hw : wsy = Cond.code y bytes maxL ret :: wsy') (hrc : rmy.cells = mc) (hrs : rmy.slots = ms) (hd0 : y.cls = C ∧ y.cls ≠ "java/lang/invoke/MethodHandle" ∧ y.cls ≠ "java/lang/invoke/VarHandle" ∧ (parseMethodDescriptor y.desc).map (fun d => d.parameters.length) = some na) (hR : rmy.frames + 1 ≤ rm.frames ∧ 8 + (maxL + 11) + rmy.locals ≤ rm.locals) (hkd : kd k = .inl (ci, fl)) (hc : vwCl[ci]? = some (C, T, N)) (hna : As.length = na) (hst : stk = As.reverse ++ .ref ((zE Z).2.2 k) :: st) (hW : (st.map fun v => v.category).sum ≤ 8) (hro : κ.1 + mc ≤ rm.cells ∧ κ.2 + ms ≤ rm.slots) (hd : decode cc pc = .ok (.invokevirtual idx, 3)) (kk : ∀ r M2, post r M2 → JJ Z (κ.1 + mc, κ.2 + ms) M2 (pc + 3) L (.double r :: st)) : JJ Z κ M pc L stk := fun H locs ls a b c d => by
  refine va_calld (va_runV F.1 (hM H.size) (cwV na F.hts hG hw hrc hrs hd0 (by rw [F.R]; exact hR)) ⟨gb_blind, va_recv F.K a hc (lw_at _ _ (kd_obj hkd) (lc_obj _ _ hkd)), fun U hU hW1 => ⟨rfl, by rw [hU], by rw [hU]; exact a, va_K.moved hW1.alike F.K, ⟨b.1, fun _ _ _ => trivial⟩⟩⟩ rfl hna d.1 hst (lv_room hW) hd (by rw [F.R]; exact hro)) c (fun q _ h => zf_free F c q h) (zf_free F c) (fun r u t H1 locs1 ht hvm hw1 hB hz1 hk1 hS => ?_)
  obtain ⟨qP, qK, qD⟩ := hB
  rw [ht] at qP
  exact kk r u hw1 H1 locs1 ls qP (aa_N F.N qD) hS d
theorem jj_ddiv (F : ZF Z cc Ts own rm) {x y : UInt64} (hne : vf_n64 (FP.ddiv x y)) (hd : decode cc pc = .ok (.ddiv, 1)) (k : JJ Z κ M (pc + 1) L (.double (FP.ddiv x y) :: st)) : JJ Z κ M pc L (.double y :: .double x :: st) := fun H locs ls a b c d => lv_ddiv F.x F.b hd hne (k H locs ls a b c d)
theorem jj_dmul (F : ZF Z cc Ts own rm) {x y : UInt64} (hne : vf_n64 (FP.dmul x y)) (hd : decode cc pc = .ok (.dmul, 1)) (k : JJ Z κ M (pc + 1) L (.double (FP.dmul x y) :: st)) : JJ Z κ M pc L (.double y :: .double x :: st) := fun H locs ls a b c d => lv_dmul F.x F.b hd hne (k H locs ls a b c d)
theorem jj_topd {x y : UInt64} (h : x = y) (k : JJ Z κ M pc L (.double y :: st)) : JJ Z κ M pc L (.double x :: st) := h ▸ k
end JD
theorem ctD_of {l : Launch} {E : Ee} {y : MethodName} {ws ws' : List Cond} {rm : Room} {M : Mm} {av : List Value} {mc ms : Nat} {post : UInt64 → Mm → Prop} {cc : ByteArray} {maxL : Nat} (hy : plainName y.cls = true) (hw : ws = Cond.code y cc maxL (some .double) :: ws') (hav : (lg_sl av).length ≤ maxL) {L0 : List (Option Value)} (hL : lq_pr 0 L0 = lv_args 0 av)
    (body : ∀ Z : Zt, zl Z = l → zE Z = E → zn Z = maxL → ZF Z cc ws y.cls rm → (∀ (pc : Nat) (r : UInt64) (M2 : Mm) (L : List (Option Value)), decode cc pc = .ok (.dreturn, 1) → post r M2 → JJ Z (mc, ms) M2 pc L [.double r]) → JJ Z (0, 0) M 0 L0 []) : CtD l E y ws rm M av mc ms post := by
  intro sz
  refine Met.ofW (cc := cc) (maxL := maxL) (ret := (some .double)) hy hw ?_
  intro p e s m args below meth c s₁ B hml hv
  obtain ⟨rfl, hsz, hP, hK, hD0⟩ := hv
  have hx := B.exec
  have hb := B.bytes
  have hr := B.returns
  have hts := atoms_spec (ws := ws) B.pre
  have hown : s.vm.findClass y.cls = some m.cls := findClass_of_methodNamed B.named
  have hlocks := B.notSynchronized
  subst hsz
  have hl := lv_entry av (n := maxL) hav
  rw [lg_entry_eq]
  generalize (lg_sl av ++ List.replicate (maxL - (lg_sl av).length) Slot.unset).toArray = ls at hl ⊢
  rw [← hL] at hl
  refine body ((p, l, e, (headSpec ws rm).room, s, m, av.toArray, below, meth, c), (E, AA E s.heap.size, s.heap, MQ below (va_Qd post (GB E (AA E s.heap.size)) (AA E s.heap.size)) av.toArray s mc ms (AA E s.heap.size), maxL)) rfl rfl rfl ⟨⟨hx, hb, hml, hown, hts⟩, hK, fun q h => Or.inr h, rfl, fun k hk => Or.inl ⟨k, hk, rfl⟩⟩ ?_ s.heap [] ls hP (aa_D hD0) va_S.rf (lq_of hl)
  · intro pc r M2 L hd hpost H locs ls a b c d
    exact W.dret hx hb hr (fun t ht hW => ⟨⟨r, M2, rfl, hpost, by rw [ht]; exact a, va_K.moved hW.alike hK, b⟩, c.F ht⟩) c.2.2 hd
/-- the strength of what is on top of a cell, its sum, the number of cells with something on top -/
def sN (a : Ab) (c : Nat) : Nat := if tpA a c = -1 then 0 else (strI (a_op a (tpA a c).toNatClampNeg 0) (a_op a (tpA a c).toNatClampNeg 4) (a_op a (tpA a c).toNatClampNeg 5) (nI (a_t a))).toNatClampNeg
def sS (a : Ab) : Nat → Nat
  | 0 => 0
  | i + 1 => sS a i + sN a i
def sC (a : Ab) : Nat → Nat
  | 0 => 0
  | i + 1 => sC a i + (if tpA a i = -1 then 0 else 1)
def mnA (a : Ab) : UInt64 := if sC a 256 = 0 then 0 else FP.ddiv (FP.i2d (nI (sS a 256))) (FP.i2d (nI (sC a 256)))
theorem str_le {f : Nat → Int32} {t : Nat} (ht : t ≤ 100000) (h : opOk t f) : ∃ v, v ≤ 100 ∧ strI (f 0) (f 4) (f 5) (nI t) = nI v := by
  obtain ⟨-, -, -, -, ⟨v4, h4, e4⟩, ⟨v5, h5, e5⟩⟩ := h
  unfold strI vanI
  rw [e4, e5]
  split
  · exact ⟨0, by omega, rfl⟩
  · rename_i q
    split
    · rename_i q4
      have q4 : 0 < v4 := by
        have : nI 0 < nI v4 := q4
        exact (nI_ltI (by omega) (by omega)).mp this
      have q5 : t < v5 + v4 := by
        rcases Nat.lt_or_ge t (v5 + v4) with z | z
        · exact z
        · exfalso
          apply q
          right
          rw [decide_eq_true (show (0 : Int32) < nI v4 from nI_lt q4 (by omega)), nI_add, decide_eq_true (nI_le z (by omega))]
          rfl
      refine ⟨100 * (v5 + v4 - t) / v4, ?_, ?_⟩
      · apply Nat.div_le_of_le_mul
        rw [Nat.mul_comm v4 100]
        apply Nat.mul_le_mul_left
        omega
      · rw [nI_add, pk_sub (by omega), pk_mul, pk_div (by omega) q4 (by omega)]
    · exact ⟨100, by omega, rfl⟩
theorem tp_v {a : Ab} (h60 : a_n a ≤ 60) (hopk : ∀ i, i < a_n a → opOk (a_t a) (a_op a i)) (c : Nat) : tpA a c = -1 ∨ ∃ k, k < a_n a ∧ tpA a c = nI k := by
  show topA _ _ _ _ _ c = -1 ∨ ∃ k, k < a_n a ∧ topA _ _ _ _ _ c = nI k
  rw [topA_t (opOk_lay hopk)]
  cases e : tA (a_op a) (a_C a) (a_ac a) (a_n a) (nI (a_t a)) c with
  | none => exact Or.inl rfl
  | some j => exact Or.inr ⟨j, tA_lt e, rfl⟩
theorem sN_m {a : Ab} {c : Nat} (h : tpA a c = -1) : sN a c = 0 := if_pos h
theorem sN_k {a : Ab} {c k : Nat} (h60 : a_n a ≤ 60) (ht : a_t a ≤ 100000) (hopk : ∀ i, i < a_n a → opOk (a_t a) (a_op a i)) (hk : k < a_n a) (h : tpA a c = nI k) : sN a c ≤ 100 ∧ strI (a_op a k 0) (a_op a k 4) (a_op a k 5) (nI (a_t a)) = nI (sN a c) := by
  obtain ⟨v, hv, e⟩ := str_le ht (hopk k hk)
  unfold sN
  rw [if_neg (by rw [h]; exact nI_m1 (by omega)), h, nI_clamp (by omega), e, nI_clamp (by omega)]
  exact ⟨hv, rfl⟩
theorem sS_le {a : Ab} (h60 : a_n a ≤ 60) (ht : a_t a ≤ 100000) (hopk : ∀ i, i < a_n a → opOk (a_t a) (a_op a i)) : ∀ i, sS a i ≤ 100 * i
  | 0 => Nat.le_refl _
  | i + 1 => by
    have ih := sS_le h60 ht hopk i
    have : sN a i ≤ 100 := by
      rcases tp_v h60 hopk i with h | ⟨k, hk, h⟩
      · rw [sN_m h]; omega
      · exact (sN_k h60 ht hopk hk h).1
    show sS a i + sN a i ≤ _
    omega
theorem sC_le {a : Ab} : ∀ i, sC a i ≤ i
  | 0 => Nat.le_refl _
  | i + 1 => by
    have ih := sC_le (a := a) i
    show sC a i + (if tpA a i = -1 then 0 else 1) ≤ _
    split <;> omega
theorem sC_m {a : Ab} {i : Nat} (h : tpA a i = -1) : sC a (i + 1) = sC a i ∧ sS a (i + 1) = sS a i := by
  refine ⟨?_, ?_⟩
  · show sC a i + (if tpA a i = -1 then 0 else 1) = _
    rw [if_pos h]
    rfl
  · show sS a i + sN a i = _
    rw [sN_m h]
    rfl
theorem sC_k {a : Ab} {i k : Nat} (hk : k < 2 ^ 31) (h : tpA a i = nI k) : sC a (i + 1) = sC a i + 1 := by
  show sC a i + (if tpA a i = -1 then 0 else 1) = _
  rw [if_neg (by rw [h]; exact nI_m1 hk)]
set_option maxRecDepth 100000 in
set_option maxHeartbeats 1000000 in
theorem c_X8_meanStrength {l : Launch} {E : Ee} {M : Mm} {a : Ab} {W : Nat} (hB : RelB M a W) : CtD l E yX8_meanStrength (.code yX8_meanStrength cX8_meanStrength 5 (some .double) :: gl) ({ frames := 2, cells := 0, slots := 0, locals := 45 } : Room) M [.ref (E.2.2 0)] 0 0 (fun r M2 => r = mnA a ∧ RelB M2 a W) := by
  refine ctD_of (L0 := [some (.ref (E.2.2 0)), none, none, none, none]) (by decide) rfl (Nat.le_of_ble_eq_true rfl) rfl ?_
  intro Z hl hE hnl F ret
  subst hE
  have in_X2 : ∀ w ∈ u_ws RX2 TX2 3, w ∈ (.code yX8_meanStrength cX8_meanStrength 5 (some .double) :: gl) := fun w h => List.mem_cons_of_mem _ (lay_X2 w h)
  have in_X7 : ∀ w ∈ u_ws RX7 TX7 4, w ∈ (.code yX8_meanStrength cX8_meanStrength 5 (some .double) :: gl) := fun w h => List.mem_cons_of_mem _ (lay_X7 w h)
  have in_X8 : ∀ w ∈ u_ws RX8 TX8 9, w ∈ (.code yX8_meanStrength cX8_meanStrength 5 (some .double) :: gl) := fun w h => List.mem_cons_of_mem _ (lay_X8 w h)
  have g19 : FG Z 19 8 1 := fg_mk F (C := RX8) (T := TX8) (N := 9) in_X8 rfl (by decide) rfl (List.mem_cons_of_mem _ fk_X8_19)
  have g39 : FG Z 39 8 4 := fg_mk F (C := RX8) (T := TX8) (N := 9) in_X8 rfl (by decide) rfl (List.mem_cons_of_mem _ fk_X8_39)
  have g60 : FG Z 60 8 8 := fg_mk F (C := RX8) (T := TX8) (N := 9) in_X8 rfl (by decide) rfl (List.mem_cons_of_mem _ fk_X8_60)
  have g248 : FG Z 248 7 1 := fg_mk F (C := RX7) (T := TX7) (N := 4) in_X7 rfl (by decide) rfl (List.mem_cons_of_mem _ fk_X8_248)
  have g269 : FG Z 269 2 0 := fg_mk F (C := RX2) (T := TX2) (N := 3) in_X2 rfl (by decide) rfl (List.mem_cons_of_mem _ fk_X8_269)
  have kB := kd_B
  have kL := kd_Log
  have kE := kd_ents
  have kN : kd 204 = .inl (7, [207, 208, 209, 210]) := by decide +kernel
  have kT : kd 206 = .inr (0, 256, 0, 0) := by decide +kernel
  obtain ⟨⟨h60, ht, htk, hn, hop, hac, hopk, Cb, hCb, hCa⟩, -, -, -, ⟨-, s2, -, -⟩, -, -⟩ := id hB
  have hsS := sS_le h60 ht hopk
  have hsC := sC_le (a := a)
  have lp : ∀ i, i ≤ 256 → JJ Z (0, 0) M 6 [some (.ref ((zE Z).2.2 0)), some (.int (nI (sS a i))), some (.int (nI (sC a i))), some (.int (nI i)), none] [] := by
    refine jj_loop 256 ?_ ?_
    · refine jj_iload_n F dX8_meanStrength_6 rfl ?_
      refine jj_sipush F (v := nI 256) dX8_meanStrength_7 (by decide) ?_
      refine jj_icmp_ge F (tgt := 65) dX8_meanStrength_10 (by decide) (fun _ => ?_) (fun h9 => absurd (nI_le (by omega) (by omega)) h9)
      have hc9 := hsC 256
      have hs9 := hsS 256
      refine jj_iload_n F dX8_meanStrength_65 rfl ?_
      by_cases h0 : sC a 256 = 0
      · refine jj_if_ne F (tgt := 73) dX8_meanStrength_66 (by decide) (fun h9 => absurd (show nI (sC a 256) = 0 by rw [h0]; rfl) h9) (fun _ => ?_)
        refine jj_dconst0 F dX8_meanStrength_69 ?_
        refine jj_goto F (tgt := 78) dX8_meanStrength_70 (by decide) ?_
        refine ret _ _ _ _ dX8_meanStrength_78 ?_
        exact ⟨(if_pos h0).symm, hB⟩
      · refine jj_if_ne F (tgt := 73) dX8_meanStrength_66 (by decide) (fun _ => ?_) (fun h9 => absurd h9 (nI_ne0 (by omega) (by omega)))
        refine jj_iload_n F dX8_meanStrength_73 rfl ?_
        refine jj_i2d F dX8_meanStrength_74 ?_
        refine jj_iload_n F dX8_meanStrength_75 rfl ?_
        refine jj_i2d F dX8_meanStrength_76 ?_
        refine jj_ddiv F (dv_n (by omega) (by omega) (by omega)) dX8_meanStrength_77 ?_
        refine ret _ _ _ _ dX8_meanStrength_78 ?_
        exact ⟨(if_neg h0).symm, hB⟩
    · intro i hi ih
      have hc9 := hsC i
      have hs9 := hsS i
      rcases tp_v h60 hopk i with e9 | ⟨k, hk, e9⟩
      · refine jj_iload_n F dX8_meanStrength_6 rfl ?_
        refine jj_sipush F (v := nI 256) dX8_meanStrength_7 (by decide) ?_
        refine jj_icmp_ge F (tgt := 65) dX8_meanStrength_10 (by decide) (fun h9 => absurd h9 (nI_ge (by omega) (by omega))) (fun _ => ?_)
        refine jj_aload_n F dX8_meanStrength_13 rfl ?_
        refine jj_getr F g39 (by assumption) (by rfl) dX8_meanStrength_14 ?_
        refine jj_getr F g248 (by assumption) (by rfl) dX8_meanStrength_17 ?_
        refine jj_iload_n F dX8_meanStrength_20 rfl ?_
        refine jj_iald F (by assumption) rfl (by omega) dX8_meanStrength_21 ?_
        refine jj_topi (show M.1 206 i = -1 by rw [s2]; exact e9) ?_
        refine jj_istore F dX8_meanStrength_22 (by rw [hnl]; decide) ?_
        dsimp only [lq_st, lq_clr, lq_no]
        refine jj_aload_n F dX8_meanStrength_24 rfl ?_
        refine jj_getr F g19 (by assumption) (by rfl) dX8_meanStrength_25 ?_
        refine jj_iload F dX8_meanStrength_28 rfl ?_
        refine jj_callVi (na := 1) F c_X2_contains (gl_V mk_X8_171 vw_X2_contains) rfl rfl rfl (by decide +kernel) ⟨Nat.le_of_ble_eq_true rfl, Nat.le_of_ble_eq_true rfl⟩ (by assumption) rfl rfl rfl (Nat.le_of_ble_eq_true rfl) ⟨Nat.le_of_ble_eq_true rfl, Nat.le_of_ble_eq_true rfl⟩ dX8_meanStrength_30 (fun r30 M30 hp30 => ?_)
        obtain ⟨rfl, rfl⟩ := symm2 hp30
        refine jj_if_eq F (tgt := 59) dX8_meanStrength_33 (by decide) (fun _ => ?_) (fun h9 => absurd (by rw [show decide ((0 : Int32) ≤ -1) = false by decide, Bool.false_and]; rfl) h9)
        refine jj_iinc F dX8_meanStrength_59 rfl (by first | exact iinc1 _ | rfl) (by rw [hnl]; decide) ?_
        dsimp only [lq_st, lq_clr, lq_no]
        refine jj_goto F (tgt := 6) dX8_meanStrength_62 (by decide) ?_
        have q9 := sC_m e9
        rw [q9.1, q9.2] at ih
        refine jj_less (L2 := [some (.ref ((zE Z).2.2 0)), some (.int (nI (sS a i))), some (.int (nI (sC a i))), some (.int (nI (i + 1))), none]) (less5b _ _ _ _ _) ?_
        exact ih
      · have kk9 := kd_op k (by omega)
        refine jj_iload_n F dX8_meanStrength_6 rfl ?_
        refine jj_sipush F (v := nI 256) dX8_meanStrength_7 (by decide) ?_
        refine jj_icmp_ge F (tgt := 65) dX8_meanStrength_10 (by decide) (fun h9 => absurd h9 (nI_ge (by omega) (by omega))) (fun _ => ?_)
        refine jj_aload_n F dX8_meanStrength_13 rfl ?_
        refine jj_getr F g39 (by assumption) (by rfl) dX8_meanStrength_14 ?_
        refine jj_getr F g248 (by assumption) (by rfl) dX8_meanStrength_17 ?_
        refine jj_iload_n F dX8_meanStrength_20 rfl ?_
        refine jj_iald F (by assumption) rfl (by omega) dX8_meanStrength_21 ?_
        refine jj_topi (show M.1 206 i = nI k by rw [s2]; exact e9) ?_
        refine jj_istore F dX8_meanStrength_22 (by rw [hnl]; decide) ?_
        dsimp only [lq_st, lq_clr, lq_no]
        refine jj_aload_n F dX8_meanStrength_24 rfl ?_
        refine jj_getr F g19 (by assumption) (by rfl) dX8_meanStrength_25 ?_
        refine jj_iload F dX8_meanStrength_28 rfl ?_
        refine jj_callVi (na := 1) F c_X2_contains (gl_V mk_X8_171 vw_X2_contains) rfl rfl rfl (by decide +kernel) ⟨Nat.le_of_ble_eq_true rfl, Nat.le_of_ble_eq_true rfl⟩ (by assumption) rfl rfl rfl (Nat.le_of_ble_eq_true rfl) ⟨Nat.le_of_ble_eq_true rfl, Nat.le_of_ble_eq_true rfl⟩ dX8_meanStrength_30 (fun r30 M30 hp30 => ?_)
        obtain ⟨rfl, rfl⟩ := symm2 hp30
        refine jj_if_eq F (tgt := 59) dX8_meanStrength_33 (by decide) (fun h9 => absurd h9 (by rw [hn, decide_eq_true (nI_pos' (by omega)), decide_eq_true (nI_lt hk (by omega))]; decide)) (fun _ => ?_)
        refine jj_iload_n F dX8_meanStrength_36 rfl ?_
        refine jj_aload_n F dX8_meanStrength_37 rfl ?_
        refine jj_getr F g19 (by assumption) (by rfl) dX8_meanStrength_38 ?_
        refine jj_getr F g269 (by assumption) (by rfl) dX8_meanStrength_41 ?_
        refine jj_iload F dX8_meanStrength_44 rfl ?_
        refine jj_aald F (by assumption) rfl (by omega) dX8_meanStrength_46 ?_
        refine jj_aload_n F dX8_meanStrength_47 rfl ?_
        refine jj_geti F g60 (by assumption) (by rfl) dX8_meanStrength_48 ?_
        refine jj_callVi (na := 1) F (c_X4_strengthAt (by omega)) (gl_V mk_X8_273 vw_X4_strengthAt) rfl rfl rfl (by decide +kernel) ⟨Nat.le_of_ble_eq_true rfl, Nat.le_of_ble_eq_true rfl⟩ (by assumption) rfl rfl rfl (Nat.le_of_ble_eq_true rfl) ⟨Nat.le_of_ble_eq_true rfl, Nat.le_of_ble_eq_true rfl⟩ dX8_meanStrength_51 (fun r51 M51 hp51 => ?_)
        obtain ⟨rfl, rfl⟩ := symm2 hp51
        refine jj_iadd F dX8_meanStrength_54 ?_
        refine jj_topi (y := nI (sS a i + sN a i)) (by rw [htk, hop k hk 0 (by omega), hop k hk 4 (by omega), hop k hk 5 (by omega), (sN_k h60 ht hopk hk e9).2, nI_add]) ?_
        refine jj_istore_n F dX8_meanStrength_55 (by rw [hnl]; decide) ?_
        dsimp only [lq_st, lq_clr, lq_no]
        refine jj_iinc F dX8_meanStrength_56 rfl (by first | exact iinc1 _ | rfl) (by rw [hnl]; decide) ?_
        dsimp only [lq_st, lq_clr, lq_no]
        refine jj_iinc F dX8_meanStrength_59 rfl (by first | exact iinc1 _ | rfl) (by rw [hnl]; decide) ?_
        dsimp only [lq_st, lq_clr, lq_no]
        refine jj_goto F (tgt := 6) dX8_meanStrength_62 (by decide) ?_
        have q9 := sC_k (by omega) e9
        rw [q9] at ih
        refine jj_less (L2 := [some (.ref ((zE Z).2.2 0)), some (.int (nI (sS a i + sN a i))), some (.int (nI (sC a i + 1))), some (.int (nI (i + 1))), none]) (less5b _ _ _ _ _) ?_
        exact ih
  refine jj_iconst F (v := nI 0) dX8_meanStrength_0 (by decide) ?_
  refine jj_istore_n F dX8_meanStrength_1 (by rw [hnl]; decide) ?_
  dsimp only [lq_st, lq_clr, lq_no]
  refine jj_iconst F (v := nI 0) dX8_meanStrength_2 (by decide) ?_
  refine jj_istore_n F dX8_meanStrength_3 (by rw [hnl]; decide) ?_
  dsimp only [lq_st, lq_clr, lq_no]
  refine jj_iconst F (v := nI 0) dX8_meanStrength_4 (by decide) ?_
  refine jj_istore_n F dX8_meanStrength_5 (by rw [hnl]; decide) ?_
  dsimp only [lq_st, lq_clr, lq_no]
  exact lp 0 (Nat.zero_le _)
set_option maxRecDepth 100000 in
set_option maxHeartbeats 1000000 in
theorem c_X9_meanStrength {l : Launch} {E : Ee} {M : Mm} {a : Ab} {W : Nat} (hM : RelM M a W) : CtD l E yX9_meanStrength (.code yX9_meanStrength cX9_meanStrength 4 (some .double) :: gl) ({ frames := 5, cells := 0, slots := 0, locals := 115 } : Room) M [.ref (E.2.2 478)] 0 0 (fun r M2 => r = mnA a ∧ RelM M2 a W ∧ Pub M M2 0) := by
  refine ctD_of (L0 := [some (.ref (E.2.2 478)), none, none, none]) (by decide) rfl (Nat.le_of_ble_eq_true rfl) rfl ?_
  intro Z hl hE hnl F ret
  subst hE
  have in_X9 : ∀ w ∈ u_ws RX9 TX9 33, w ∈ (.code yX9_meanStrength cX9_meanStrength 4 (some .double) :: gl) := fun w h => List.mem_cons_of_mem _ (lay_X9 w h)
  have g72 : FG Z 72 9 26 := fg_mk F (C := RX9) (T := TX9) (N := 33) in_X9 rfl (by decide) rfl (List.mem_cons_of_mem _ fk_X9_72)
  have p87 : FP Z 87 9 0 .int := fp_mk F (C := RX9) (T := TX9) (N := 33) in_X9 tyX9_ok nmX9 rfl (by decide) rfl (List.mem_cons_of_mem _ fk_X9_87) rfl (by decide +kernel)
  have kM := kd_M
  have k499 := kd_499
  refine jj_aload_n F dX9_meanStrength_0 rfl ?_
  refine jj_iconst F (v := nI 0) dX9_meanStrength_1 (by decide) ?_
  refine jj_puti F p87 (by assumption) (by rfl) dX9_meanStrength_2 ?_
  refine jj_aload_n F dX9_meanStrength_5 rfl ?_
  refine jj_callVv (na := 0) F (c_X9_layNow (RelM_thr hM)) (gl_V mk_X9_201 vw_X9_layNow) rfl rfl rfl (by decide +kernel) ⟨Nat.le_of_ble_eq_true rfl, Nat.le_of_ble_eq_true rfl⟩ kM rfl rfl rfl (Nat.le_of_ble_eq_true rfl) ⟨Nat.le_of_ble_eq_true rfl, Nat.le_of_ble_eq_true rfl⟩ dX9_meanStrength_6 (fun N hpN => ?_)
  have hD9 := Ld_lay (RelM_thr hM) hpN
  obtain ⟨⟨h60, ht, htk, hn, hop9, hac, hun, hopk, -, -⟩, -⟩ := id hD9.1
  have hsS := sS_le h60 ht hopk
  have hsC := sC_le (a := a)
  have hpub : Pub M N 0 := Pub_thr (FrD_of (Fr_lay hpN))
  have lp : ∀ i, i ≤ 256 → JJ Z (0, 0) N 15 [some (.ref ((zE Z).2.2 478)), some (.int (nI (sS a i))), some (.int (nI (sC a i))), some (.int (nI i))] [] := by
    refine jj_loop 256 ?_ ?_
    · refine jj_iload_n F dX9_meanStrength_15 rfl ?_
      refine jj_sipush F (v := nI 256) dX9_meanStrength_16 (by decide) ?_
      refine jj_icmp_ge F (tgt := 73) dX9_meanStrength_19 (by decide) (fun _ => ?_) (fun h9 => absurd (nI_le (by omega) (by omega)) h9)
      have hc9 := hsC 256
      have hs9 := hsS 256
      refine jj_iload_n F dX9_meanStrength_73 rfl ?_
      by_cases h0 : sC a 256 = 0
      · refine jj_if_ne F (tgt := 81) dX9_meanStrength_74 (by decide) (fun h9 => absurd (show nI (sC a 256) = 0 by rw [h0]; rfl) h9) (fun _ => ?_)
        refine jj_dconst0 F dX9_meanStrength_77 ?_
        refine jj_goto F (tgt := 88) dX9_meanStrength_78 (by decide) ?_
        refine ret _ _ _ _ dX9_meanStrength_88 ?_
        exact ⟨(if_pos h0).symm, hD9.1, hpub⟩
      · refine jj_if_ne F (tgt := 81) dX9_meanStrength_74 (by decide) (fun _ => ?_) (fun h9 => absurd h9 (nI_ne0 (by omega) (by omega)))
        refine jj_dconst1 F dX9_meanStrength_81 ?_
        refine jj_iload_n F dX9_meanStrength_82 rfl ?_
        refine jj_i2d F dX9_meanStrength_83 ?_
        refine jj_dmul F (dm_n (by omega)) dX9_meanStrength_84 ?_
        refine jj_topd (dm1 (by omega)) ?_
        refine jj_iload_n F dX9_meanStrength_85 rfl ?_
        refine jj_i2d F dX9_meanStrength_86 ?_
        refine jj_ddiv F (dv_n (by omega) (by omega) (by omega)) dX9_meanStrength_87 ?_
        refine ret _ _ _ _ dX9_meanStrength_88 ?_
        exact ⟨(if_neg h0).symm, hD9.1, hpub⟩
    · intro i hi ih
      have hc9 := hsC i
      have hs9 := hsS i
      have t9 := Ld_top hD9 hi
      rcases tp_v h60 hopk i with e9 | ⟨k, hk, e9⟩
      · refine jj_iload_n F dX9_meanStrength_15 rfl ?_
        refine jj_sipush F (v := nI 256) dX9_meanStrength_16 (by decide) ?_
        refine jj_icmp_ge F (tgt := 73) dX9_meanStrength_19 (by decide) (fun h9 => absurd h9 (nI_ge (by omega) (by omega))) (fun _ => ?_)
        refine jj_iload_n F dX9_meanStrength_22 rfl ?_
        refine jj_aload_n F dX9_meanStrength_23 rfl ?_
        refine jj_getr F g72 (by assumption) (by rfl) dX9_meanStrength_24 ?_
        refine jj_iload_n F dX9_meanStrength_27 rfl ?_
        refine jj_iald F (by assumption) rfl (by omega) dX9_meanStrength_28 ?_
        refine jj_topi (show N.1 499 i = -1 by rw [t9]; exact e9) ?_
        refine jj_iconst F (v := -1) dX9_meanStrength_29 (by decide) ?_
        refine jj_icmp_ne F (tgt := 37) dX9_meanStrength_30 (by decide) (fun h9 => absurd h9 (by simp)) (fun _ => ?_)
        refine jj_iconst F (v := nI 0) dX9_meanStrength_33 (by decide) ?_
        refine jj_goto F (tgt := 47) dX9_meanStrength_34 (by decide) ?_
        refine jj_iadd F dX9_meanStrength_47 ?_
        refine jj_topi (y := nI (sS a i)) (by rw [nI_add]; rfl) ?_
        refine jj_istore_n F dX9_meanStrength_48 (by rw [hnl]; decide) ?_
        dsimp only [lq_st, lq_clr, lq_no]
        refine jj_iload_n F dX9_meanStrength_49 rfl ?_
        refine jj_aload_n F dX9_meanStrength_50 rfl ?_
        refine jj_getr F g72 (by assumption) (by rfl) dX9_meanStrength_51 ?_
        refine jj_iload_n F dX9_meanStrength_54 rfl ?_
        refine jj_iald F (by assumption) rfl (by omega) dX9_meanStrength_55 ?_
        refine jj_topi (show N.1 499 i = -1 by rw [t9]; exact e9) ?_
        refine jj_iconst F (v := -1) dX9_meanStrength_56 (by decide) ?_
        refine jj_icmp_ne F (tgt := 64) dX9_meanStrength_57 (by decide) (fun h9 => absurd h9 (by simp)) (fun _ => ?_)
        refine jj_iconst F (v := nI 0) dX9_meanStrength_60 (by decide) ?_
        refine jj_goto F (tgt := 65) dX9_meanStrength_61 (by decide) ?_
        refine jj_iadd F dX9_meanStrength_65 ?_
        refine jj_topi (y := nI (sC a i)) (by rw [nI_add]; rfl) ?_
        refine jj_istore_n F dX9_meanStrength_66 (by rw [hnl]; decide) ?_
        dsimp only [lq_st, lq_clr, lq_no]
        refine jj_iinc F dX9_meanStrength_67 rfl (by first | exact iinc1 _ | rfl) (by rw [hnl]; decide) ?_
        dsimp only [lq_st, lq_clr, lq_no]
        refine jj_goto F (tgt := 15) dX9_meanStrength_70 (by decide) ?_
        have q9 := sC_m e9
        rw [q9.1, q9.2] at ih
        exact ih
      · refine jj_iload_n F dX9_meanStrength_15 rfl ?_
        refine jj_sipush F (v := nI 256) dX9_meanStrength_16 (by decide) ?_
        refine jj_icmp_ge F (tgt := 73) dX9_meanStrength_19 (by decide) (fun h9 => absurd h9 (nI_ge (by omega) (by omega))) (fun _ => ?_)
        refine jj_iload_n F dX9_meanStrength_22 rfl ?_
        refine jj_aload_n F dX9_meanStrength_23 rfl ?_
        refine jj_getr F g72 (by assumption) (by rfl) dX9_meanStrength_24 ?_
        refine jj_iload_n F dX9_meanStrength_27 rfl ?_
        refine jj_iald F (by assumption) rfl (by omega) dX9_meanStrength_28 ?_
        refine jj_topi (show N.1 499 i = nI k by rw [t9]; exact e9) ?_
        refine jj_iconst F (v := -1) dX9_meanStrength_29 (by decide) ?_
        refine jj_icmp_ne F (tgt := 37) dX9_meanStrength_30 (by decide) (fun _ => ?_) (fun h9 => absurd h9 (nI_m1 (by omega)))
        refine jj_aload_n F dX9_meanStrength_37 rfl ?_
        refine jj_aload_n F dX9_meanStrength_38 rfl ?_
        refine jj_getr F g72 (by assumption) (by rfl) dX9_meanStrength_39 ?_
        refine jj_iload_n F dX9_meanStrength_42 rfl ?_
        refine jj_iald F (by assumption) rfl (by omega) dX9_meanStrength_43 ?_
        refine jj_topi (show N.1 499 i = nI k by rw [t9]; exact e9) ?_
        refine jj_callVi (na := 1) F (c_X9_strength (k := k) (by omega) (by rw [hop9 k hk 4 (by omega)]; exact fade_p (hopk k hk))) (gl_V mk_X9_286 vw_X9_strength) rfl rfl rfl (by decide +kernel) ⟨Nat.le_of_ble_eq_true rfl, Nat.le_of_ble_eq_true rfl⟩ (by assumption) rfl rfl rfl (Nat.le_of_ble_eq_true rfl) ⟨Nat.le_of_ble_eq_true rfl, Nat.le_of_ble_eq_true rfl⟩ dX9_meanStrength_44 (fun r44 M44 hp44 => ?_)
        obtain ⟨rfl, rfl⟩ := symm2 hp44
        refine jj_iadd F dX9_meanStrength_47 ?_
        refine jj_topi (y := nI (sS a i + sN a i)) (by rw [htk, hop9 k hk 0 (by omega), hop9 k hk 4 (by omega), hop9 k hk 5 (by omega), (sN_k h60 ht hopk hk e9).2, nI_add]) ?_
        refine jj_istore_n F dX9_meanStrength_48 (by rw [hnl]; decide) ?_
        dsimp only [lq_st, lq_clr, lq_no]
        refine jj_iload_n F dX9_meanStrength_49 rfl ?_
        refine jj_aload_n F dX9_meanStrength_50 rfl ?_
        refine jj_getr F g72 (by assumption) (by rfl) dX9_meanStrength_51 ?_
        refine jj_iload_n F dX9_meanStrength_54 rfl ?_
        refine jj_iald F (by assumption) rfl (by omega) dX9_meanStrength_55 ?_
        refine jj_topi (show N.1 499 i = nI k by rw [t9]; exact e9) ?_
        refine jj_iconst F (v := -1) dX9_meanStrength_56 (by decide) ?_
        refine jj_icmp_ne F (tgt := 64) dX9_meanStrength_57 (by decide) (fun _ => ?_) (fun h9 => absurd h9 (nI_m1 (by omega)))
        refine jj_iconst F (v := nI 1) dX9_meanStrength_64 (by decide) ?_
        refine jj_iadd F dX9_meanStrength_65 ?_
        refine jj_topi (y := nI (sC a i + 1)) (nI_add _ _) ?_
        refine jj_istore_n F dX9_meanStrength_66 (by rw [hnl]; decide) ?_
        dsimp only [lq_st, lq_clr, lq_no]
        refine jj_iinc F dX9_meanStrength_67 rfl (by first | exact iinc1 _ | rfl) (by rw [hnl]; decide) ?_
        dsimp only [lq_st, lq_clr, lq_no]
        refine jj_goto F (tgt := 15) dX9_meanStrength_70 (by decide) ?_
        have q9 := sC_k (by omega) e9
        rw [q9] at ih
        exact ih
  refine jj_iconst F (v := nI 0) dX9_meanStrength_9 (by decide) ?_
  refine jj_istore_n F dX9_meanStrength_10 (by rw [hnl]; decide) ?_
  dsimp only [lq_st, lq_clr, lq_no]
  refine jj_iconst F (v := nI 0) dX9_meanStrength_11 (by decide) ?_
  refine jj_istore_n F dX9_meanStrength_12 (by rw [hnl]; decide) ?_
  dsimp only [lq_st, lq_clr, lq_no]
  refine jj_iconst F (v := nI 0) dX9_meanStrength_13 (by decide) ?_
  refine jj_istore_n F dX9_meanStrength_14 (by rw [hnl]; decide) ?_
  dsimp only [lq_st, lq_clr, lq_no]
  exact lp 0 (Nat.zero_le _)
