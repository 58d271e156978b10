/-! the law's calls -/
def WX (Z : Zt) : Prop := zA Z = AA (zE Z) (zs Z).heap.size ∧ zH Z = (zs Z).heap ∧ TX (zE Z) (zs Z).heap.size (zs Z)
def LX (Z : Zt) (b N : Nat) (xs : Nat → Int32) : Prop := va_X b N xs (zs Z) (zH Z) ∧ b < (zH Z).size ∧ ¬ zA Z b
theorem jj_callW {Z : Zt} {cc : ByteArray} {cx : Cond} {own : String} {rm : Room} {κ : Nat × Nat} {M : Mm} {pc : Nat} {L : List (Option Value)} {st stk As : List Value} {post : Int32 → Mm → Prop} {na idx maxL : Nat} {y : MethodName} {bytes : ByteArray} {ret : Option FieldType} {wsy wsy' : List Cond} {rmy : Room} {hh : List (Nat × Nat × Nat × Nat)} (F : ZF Z cc (cx :: gl) own rm) (X : WX Z) (hM : CtW (zl Z) (zE Z) y wsy rmy M As post) (hG : GoodIn (cx :: gl) (va_wsS own idx y wsy)) (hw : wsy = Cond.codeWith y bytes maxL ret hh :: wsy') (hrc : rmy.cells = 1) (hrs : rmy.slots = 6) (hd0 : y.cls ≠ "java/lang/invoke/MethodHandle" ∧ y.cls ≠ "java/lang/invoke/VarHandle" ∧ (parseMethodDescriptor y.desc).map (fun d => d.parameters.length) = some na) (hR : rmy.frames + 1 ≤ rm.frames ∧ 8 + (maxL + 11) + rmy.locals ≤ rm.locals) (hna : As.length = na) (hst : stk = As.reverse ++ st) (hW : (st.map fun v => v.category).sum ≤ 8) (hro : κ.1 + 1 ≤ rm.cells ∧ κ.2 + 6 ≤ rm.slots) (hd : decode cc pc = .ok (.invokestatic idx, 3)) (kk : ∀ r M2, post r M2 → JJ Z (κ.1 + 1, κ.2 + 6) M2 (pc + 3) L (.int r :: st)) : JJ Z κ M pc L stk := by
  obtain ⟨⟨p, l, e, R, s, m, args, below, meth, c0⟩, E, A, H0, Q, nL⟩ := Z
  obtain ⟨hA0, hH0, hTX⟩ := X
  have hRR : R = rm := F.R
  have hA : A = AA E s.heap.size := hA0
  have hH : H0 = s.heap := hH0
  clear hA0 hH0
  subst hRR hA hH
  intro H locs ls a b c d
  have hrun := vx_runSX (p := p) (l := l) (e := e) (R := R) (s := s) (m := m) (args := args) (below := below) (meth := meth) (c := c0) (H := H) (locs := locs) (cells := κ.1) (slots := κ.2) (g := F0 m pc ls stk) (rest := st) (As := As) F.1 (hM H.size) (vx_cwSW na F.hts hG hw hrc hrs hd0 hR) ⟨px_blind, fun U hU hW1 => ⟨rfl, by rw [hU], ⟨by rw [hU]; exact a, va_K.moved hW1.alike F.K, ⟨b.1, fun _ _ _ => trivial⟩⟩, TX_call hTX rfl rfl c hU hW1⟩⟩ rfl hna d.1 hst (lv_room hW) hd hro
  have hva : va_Run p l e R s m args below meth c0 H locs κ.1 κ.2 1 6 (F0 m pc ls stk) st (va_Qi post (GB E (AA E H.size)) (AA E H.size) As.toArray) (AA E H.size) := fun T hT XT => by
    rcases hrun T hT XT with h | ⟨_, _, _, _, _, _, _, _, _, _, _, _, hx, _⟩
    · exact h
    · exact hx.elim
  refine va_calli hva c (fun q _ h => zf_free F c q h) (zf_free F c) (fun r u t H1 locs1 ht hvm hw1 hB hz1 hk1 hS => ?_)
  obtain ⟨qP, qK, qD⟩ := hB
  rw [ht] at qP
  exact kk r u hw1 H1 locs1 ls qP (aa_N F.N qD) hS d
section JL
variable {Z : Zt} {cc : ByteArray} {Ts : List Cond} {own : String} {rm : Room} {κ : Nat × Nat} {M : Mm} {pc : Nat} {L : List (Option Value)} {st : List Value} {b N : Nat} {xs : Nat → Int32}
theorem jj_sld (F : ZF Z cc Ts own rm) (X : LX Z b N xs) {i : Int32} {q : Nat} (hi : i = nI q) (hq : q < N) (hN : N ≤ 2560) (hd : decode cc pc = .ok (.iaload, 1)) (k : JJ Z κ M (pc + 1) L (.int (xs q) :: st)) : JJ Z κ M pc L (.int i :: .ref b :: st) := fun H locs ls a bb c d => by
  subst hi
  refine va_sld F.x F.b X.1 X.2.1 X.2.2 c (vp_in_nI hq (by omega)) hd ?_
  rw [nI_clamp (by omega)]
  exact k H locs ls a bb c d
theorem jj_slen (F : ZF Z cc Ts own rm) (X : LX Z b N xs) (hd : decode cc pc = .ok (.arraylength, 1)) (k : JJ Z κ M (pc + 1) L (.int (nI N) :: st)) : JJ Z κ M pc L (.ref b :: st) := fun H locs ls a bb c d => va_slen F.x F.b X.1 X.2.1 X.2.2 c hd (k H locs ls a bb c d)
end JL
theorem RelM_q {M M1 : Mm} {a a1 : Ab} {W : Nat} (hM : RelM M a W) (hG : RelG M1 a1) (hg : a_g a1 = M) : RelM M1 a W := by
  obtain ⟨g1, g2⟩ := hG
  rw [hg] at g1 g2
  exact RelM_ag hM (fun x h1 h2 => g1 x (by omega)) (fun b _ => by rw [g1 478 (by omega)]) (by rw [g2]) (by rw [g2]) (by rw [g2]; exact hM.2.2.2.2)
theorem INV_q {M1 M2 : Mm} {a1 : Ab} {W e : Nat} (hB : RelB M1 a1 W) (hM : RelM M2 a1 W) (hp : Pub M1 M2 e) : INV M2 (W + 1) := ⟨gz a1 M2, RelB_W (RelB_md hB (fun x hx => hp.1 x hx)) (by omega), RelM_W hM (by omega)⟩
theorem less9 (a b c d e f g h i : Option Value) : ∀ (n : Nat) (v : Value), ([a, b, c, d, e, none, none, none, none] : List (Option Value))[n]? = some (some v) → ([a, b, c, d, e, f, g, h, i] : List (Option Value))[n]? = some (some v)
  | 0, _, h => h
  | 1, _, h => h
  | 2, _, h => h
  | 3, _, h => h
  | 4, _, h => h
  | 5, _, h => by simp at h
  | 6, _, h => by simp at h
  | 7, _, h => by simp at h
  | 8, _, h => by simp at h
  | n + 9, _, h => by simp at h
/-- the law's locals at its loop's head -/
abbrev Lw (E : Ee) (b i : Nat) : List (Option Value) := [some (.ref b), some (.ref (E.2.2 0)), some (.ref (E.2.2 478)), some (.ref (E.2.2 504)), some (.int (nI i)), none, none, none, none]
abbrev cxL : Cond := .initialized RX8
theorem jj_topl {Z : Zt} {κ : Nat × Nat} {M : Mm} {pc : Nat} {L : List (Option Value)} {st : List Value} {x y : Int64} (h : x = y) (k : JJ Z κ M pc L (.long y :: st)) : JJ Z κ M pc L (.long x :: st) := h ▸ k
theorem lgc (x : Int64) : lg_cmp x x = 0 := by simp [lg_cmp]
set_option maxRecDepth 100000 in
set_option maxHeartbeats 1000000 in
theorem c_X9_thrown {l : Launch} {E : Ee} {M : Mm}  : CtI l E yX9_thrown (.code yX9_thrown cX9_thrown 1 (some .int) :: gl) ({ frames := 0, cells := 0, slots := 0, locals := 0 } : Room) M [.ref (E.2.2 478)] 0 0 (fun r M2 => r = M.1 478 0 ∧ M2 = M) := by
  refine ctI_of (L0 := [some (.ref (E.2.2 478))]) (by decide) rfl (Nat.le_of_ble_eq_true rfl) rfl ?_
  intro Z hl hE hnl F ret
  subst hE
  have in_X9 : ∀ w ∈ u_ws RX9 TX9 33, w ∈ (.code yX9_thrown cX9_thrown 1 (some .int) :: gl) := fun w h => List.mem_cons_of_mem _ (lay_X9 w h)
  have g87 : FG Z 87 9 0 := fg_mk F (C := RX9) (T := TX9) (N := 33) in_X9 rfl (by decide) rfl (List.mem_cons_of_mem _ fk_X9_87)
  have kM := kd_M
  refine jj_aload_n F dX9_thrown_0 rfl ?_
  refine jj_geti F g87 (by assumption) (by rfl) dX9_thrown_1 ?_
  refine ret _ _ _ _ dX9_thrown_4 (by first | rfl | exact nar_z (by first | exact Or.inl rfl | exact Or.inr rfl | exact b2i_01 _ | assumption)) ?_
  exact ⟨rfl, rfl⟩
set_option maxRecDepth 100000 in
set_option maxHeartbeats 1000000 in
theorem law_clear {Z : Zt} {b N : Nat} {xs : Nat → Int32} (F : ZF Z code (cxL :: gl) RL room_1) (X : WX Z) (S : LX Z b N xs) (hnl : zn Z = 9) (hst : (zl Z).stackTraces = false) (hN : N ≤ 2560) {κ : Nat × Nat} {M : Mm} {i W : Nat} (hi : i + 5 ≤ N) (hI : INV M W) (hWW : W < 1000) (hκ : κ.1 + 1 ≤ 601024 ∧ κ.2 + 6 ≤ 7293034) (kk : ∀ M2, INV M2 (W + 1) → JJ Z (κ.1 + 1, κ.2 + 6) M2 1606 (Lw (zE Z) b i) []) : JJ Z κ M 156 (Lw (zE Z) b i) [] := by
  obtain ⟨a0, hB0, hM0⟩ := hI
  have hB : RelB M (gz a0 M) W := RelB_gz hB0
  have hM : RelM M (gz a0 M) W := hM0
  have hg : a_g (gz a0 M) = M := rfl
  generalize gz a0 M = a at hB hM hg
  refine jj_aload_n F dL_law_156 rfl ?_
  refine jj_callVi (na := 0) F (b_clear_0 hB) (gl_V mk_L_86 vw_X8_clear) rfl rfl rfl (by decide +kernel) ⟨Nat.le_of_ble_eq_true rfl, Nat.le_of_ble_eq_true rfl⟩ kd_0 rfl rfl rfl (Nat.le_of_ble_eq_true rfl) ⟨by show κ.1 + 0 ≤ 601024; omega, by show κ.2 + 0 ≤ 7293034; omega⟩ dL_law_157 (fun r1 M1 hp1 => ?_)
  obtain ⟨e1, hB1⟩ := hp1
  subst e1
  have hM1 := RelM_q hM (RelB_gx hB1) hg
  refine jj_aload_n F dL_law_160 rfl ?_
  refine jj_callVi (na := 0) F (m_clear_0 hM1) (gl_V mk_L_90 vw_X9_clear) rfl rfl rfl (by decide +kernel) ⟨Nat.le_of_ble_eq_true rfl, Nat.le_of_ble_eq_true rfl⟩ kd_M rfl rfl rfl (Nat.le_of_ble_eq_true rfl) ⟨by show κ.1 + 0 + 0 ≤ 601024; omega, by show κ.2 + 0 + 0 ≤ 7293034; omega⟩ dL_law_161 (fun r2 M2 hp2 => ?_)
  obtain ⟨e2, hM2, hpub⟩ := hp2
  subst e2
  have hI2 := INV_q hB1 hM2 hpub
  refine jj_icmp_eq F (tgt := 1606) dL_law_164 (by decide) (fun _ => ?_) (fun h9 => absurd rfl h9)
  refine jj_wid (κ2 := (κ.1 + 1, κ.2 + 6)) (Nat.le_succ _) (by show κ.2 + 0 + 0 ≤ κ.2 + 6; omega) ?_
  exact kk M2 hI2
set_option maxRecDepth 100000 in
set_option maxHeartbeats 1000000 in
theorem law_pass {Z : Zt} {b N : Nat} {xs : Nat → Int32} (F : ZF Z code (cxL :: gl) RL room_1) (X : WX Z) (S : LX Z b N xs) (hnl : zn Z = 9) (hst : (zl Z).stackTraces = false) (hN : N ≤ 2560) {κ : Nat × Nat} {M : Mm} {i W : Nat} (hi : i + 5 ≤ N) (hI : INV M W) (hWW : W < 1000) (hκ : κ.1 + 1 ≤ 601024 ∧ κ.2 + 6 ≤ 7293034) (kk : ∀ M2, INV M2 (W + 1) → JJ Z (κ.1 + 1, κ.2 + 6) M2 1606 (Lw (zE Z) b i) []) : JJ Z κ M 169 (Lw (zE Z) b i) [] := by
  obtain ⟨k, P, Wp, hk4, hu, hw, hrest⟩ := p_pass (E := zE Z) hst hI hWW (xs (i + 1))
  refine jj_aload_n F dL_law_169 rfl ?_
  refine jj_aload_n F dL_law_170 rfl ?_
  refine jj_iload F dL_law_171 rfl ?_
  refine jj_iconst F (v := nI 1) dL_law_173 (by decide) ?_
  refine jj_iadd F dL_law_174 ?_
  refine jj_topi (nI_add i 1) ?_
  refine jj_sld F S rfl (by omega) hN dL_law_175 ?_
  refine jj_aload_n F dL_law_176 rfl ?_
  refine jj_callW (na := 3) F X hw (gl_S mk_L_91 vw_L_pass) rfl rfl rfl (by decide +kernel) ⟨Nat.le_of_ble_eq_true rfl, Nat.le_of_ble_eq_true rfl⟩ rfl rfl (Nat.le_of_ble_eq_true rfl) hκ dL_law_177 (fun r1 M1 hp1 => ?_)
  obtain ⟨e1, h0, Mp, hmp, hfin⟩ := hrest r1 M1 hp1
  subst e1
  refine jj_istore F dL_law_180 (by rw [hnl]; decide) ?_
  dsimp only [lq_st, lq_clr, lq_no]
  refine jj_aload_n F dL_law_182 rfl ?_
  refine jj_aload_n F dL_law_183 rfl ?_
  refine jj_iload F dL_law_184 rfl ?_
  refine jj_iconst F (v := nI 1) dL_law_186 (by decide) ?_
  refine jj_iadd F dL_law_187 ?_
  refine jj_topi (nI_add i 1) ?_
  refine jj_sld F S rfl (by omega) hN dL_law_188 ?_
  refine jj_callVi (na := 1) F hmp (gl_V mk_L_96 vw_X9_pass) rfl rfl rfl (by decide +kernel) ⟨Nat.le_of_ble_eq_true rfl, Nat.le_of_ble_eq_true rfl⟩ kd_M rfl rfl rfl (Nat.le_of_ble_eq_true rfl) ⟨hκ.1, hκ.2⟩ dL_law_189 (fun r2 M2 hp2 => ?_)
  obtain ⟨hI2, e504, e478, hP2⟩ := hfin r2 M2 hp2
  refine jj_istore F dL_law_192 (by rw [hnl]; decide) ?_
  dsimp only [lq_st, lq_clr, lq_no]
  refine jj_aload_n F dL_law_194 rfl ?_
  refine jj_callVi (na := 0) F c_X9_thrown (gl_V mk_L_97 vw_X9_thrown) rfl rfl rfl (by decide +kernel) ⟨Nat.le_of_ble_eq_true rfl, Nat.le_of_ble_eq_true rfl⟩ kd_M rfl rfl rfl (Nat.le_of_ble_eq_true rfl) ⟨hκ.1, hκ.2⟩ dL_law_195 (fun r3 M3 hp3 => ?_)
  obtain ⟨rfl, rfl⟩ := symm2 hp3
  refine jj_topi e478 ?_
  refine jj_iload F dL_law_198 rfl ?_
  refine jj_icmp_eq F (tgt := 205) dL_law_200 (by decide) (fun _ => ?_) (fun h9 => absurd rfl h9)
  refine jj_iload F dL_law_205 rfl ?_
  by_cases hk0 : k = 0
  · subst hk0
    refine jj_if_ne F (tgt := 222) dL_law_207 (by decide) (fun h9 => absurd rfl h9) (fun _ => ?_)
    obtain ⟨v, hv, hPv⟩ := h0 rfl
    refine jj_aload_n F dL_law_210 rfl ?_
    refine jj_iconst F (v := nI 0) dL_law_211 (by decide) ?_
    refine jj_lald F kd_504 rfl (by omega) dL_law_212 ?_
    refine jj_topl (show M2.2 504 0 = r2.toInt64 by rw [e504, hv, hu r2 v (hP2 rfl) hPv]) ?_
    refine jj_iload F dL_law_213 rfl ?_
    refine jj_i2l F dL_law_215 ?_
    refine jj_lcmp F dL_law_216 ?_
    refine jj_topi (lgc _) ?_
    refine jj_if_eq F (tgt := 222) dL_law_217 (by decide) (fun _ => ?_) (fun h9 => absurd rfl h9)
    refine jj_goto F (tgt := 1606) dL_law_222 (by decide) ?_
    refine jj_less (L2 := Lw (zE Z) b i) (less9 _ _ _ _ _ _ _ _ _) ?_
    exact kk M2 hI2
  · refine jj_if_ne F (tgt := 222) dL_law_207 (by decide) (fun _ => ?_) (fun h9 => absurd h9 (nI_ne0 (by omega) (by omega)))
    refine jj_goto F (tgt := 1606) dL_law_222 (by decide) ?_
    refine jj_less (L2 := Lw (zE Z) b i) (less9 _ _ _ _ _ _ _ _ _) ?_
    exact kk M2 hI2
set_option maxRecDepth 100000 in
set_option maxHeartbeats 1000000 in
theorem law_append {Z : Zt} {b N : Nat} {xs : Nat → Int32} (F : ZF Z code (cxL :: gl) RL room_1) (X : WX Z) (S : LX Z b N xs) (hnl : zn Z = 9) (hst : (zl Z).stackTraces = false) (hN : N ≤ 2560) {κ : Nat × Nat} {M : Mm} {i W : Nat} (hi : i + 5 ≤ N) (hI : INV M W) (hWW : W < 1000) (hκ : κ.1 + 1 ≤ 601024 ∧ κ.2 + 6 ≤ 7293034) (kk : ∀ M2, INV M2 (W + 1) → JJ Z (κ.1 + 1, κ.2 + 6) M2 1606 (Lw (zE Z) b i) []) : JJ Z κ M 225 (Lw (zE Z) b i) [] := by
  obtain ⟨k, P, Wp, hk4, hu, hw, hrest⟩ := p_append (E := zE Z) hst hI hWW (xs (i + 1))
  refine jj_aload_n F dL_law_225 rfl ?_
  refine jj_aload_n F dL_law_226 rfl ?_
  refine jj_iload F dL_law_227 rfl ?_
  refine jj_iconst F (v := nI 1) dL_law_229 (by decide) ?_
  refine jj_iadd F dL_law_230 ?_
  refine jj_topi (nI_add i 1) ?_
  refine jj_sld F S rfl (by omega) hN dL_law_231 ?_
  refine jj_aload_n F dL_law_232 rfl ?_
  refine jj_callW (na := 3) F X hw (gl_S mk_L_100 vw_L_append) rfl rfl rfl (by decide +kernel) ⟨Nat.le_of_ble_eq_true rfl, Nat.le_of_ble_eq_true rfl⟩ rfl rfl (Nat.le_of_ble_eq_true rfl) hκ dL_law_233 (fun r1 M1 hp1 => ?_)
  obtain ⟨e1, h0, Mp, hmp, hfin⟩ := hrest r1 M1 hp1
  subst e1
  refine jj_istore F dL_law_236 (by rw [hnl]; decide) ?_
  dsimp only [lq_st, lq_clr, lq_no]
  refine jj_aload_n F dL_law_238 rfl ?_
  refine jj_aload_n F dL_law_239 rfl ?_
  refine jj_iload F dL_law_240 rfl ?_
  refine jj_iconst F (v := nI 1) dL_law_242 (by decide) ?_
  refine jj_iadd F dL_law_243 ?_
  refine jj_topi (nI_add i 1) ?_
  refine jj_sld F S rfl (by omega) hN dL_law_244 ?_
  refine jj_callVi (na := 1) F hmp (gl_V mk_L_102 vw_X9_append) rfl rfl rfl (by decide +kernel) ⟨Nat.le_of_ble_eq_true rfl, Nat.le_of_ble_eq_true rfl⟩ kd_M rfl rfl rfl (Nat.le_of_ble_eq_true rfl) ⟨hκ.1, hκ.2⟩ dL_law_245 (fun r2 M2 hp2 => ?_)
  obtain ⟨hI2, e504, e478, hP2⟩ := hfin r2 M2 hp2
  refine jj_istore F dL_law_248 (by rw [hnl]; decide) ?_
  dsimp only [lq_st, lq_clr, lq_no]
  refine jj_aload_n F dL_law_250 rfl ?_
  refine jj_callVi (na := 0) F c_X9_thrown (gl_V mk_L_97 vw_X9_thrown) rfl rfl rfl (by decide +kernel) ⟨Nat.le_of_ble_eq_true rfl, Nat.le_of_ble_eq_true rfl⟩ kd_M rfl rfl rfl (Nat.le_of_ble_eq_true rfl) ⟨hκ.1, hκ.2⟩ dL_law_251 (fun r3 M3 hp3 => ?_)
  obtain ⟨rfl, rfl⟩ := symm2 hp3
  refine jj_topi e478 ?_
  refine jj_iload F dL_law_254 rfl ?_
  refine jj_icmp_eq F (tgt := 261) dL_law_256 (by decide) (fun _ => ?_) (fun h9 => absurd rfl h9)
  refine jj_iload F dL_law_261 rfl ?_
  by_cases hk0 : k = 0
  · subst hk0
    refine jj_if_ne F (tgt := 278) dL_law_263 (by decide) (fun h9 => absurd rfl h9) (fun _ => ?_)
    obtain ⟨v, hv, hPv⟩ := h0 rfl
    refine jj_aload_n F dL_law_266 rfl ?_
    refine jj_iconst F (v := nI 0) dL_law_267 (by decide) ?_
    refine jj_lald F kd_504 rfl (by omega) dL_law_268 ?_
    refine jj_topl (show M2.2 504 0 = r2.toInt64 by rw [e504, hv, hu r2 v (hP2 rfl) hPv]) ?_
    refine jj_iload F dL_law_269 rfl ?_
    refine jj_i2l F dL_law_271 ?_
    refine jj_lcmp F dL_law_272 ?_
    refine jj_topi (lgc _) ?_
    refine jj_if_eq F (tgt := 278) dL_law_273 (by decide) (fun _ => ?_) (fun h9 => absurd rfl h9)
    refine jj_goto F (tgt := 1606) dL_law_278 (by decide) ?_
    refine jj_less (L2 := Lw (zE Z) b i) (less9 _ _ _ _ _ _ _ _ _) ?_
    exact kk M2 hI2
  · refine jj_if_ne F (tgt := 278) dL_law_263 (by decide) (fun _ => ?_) (fun h9 => absurd h9 (nI_ne0 (by omega) (by omega)))
    refine jj_goto F (tgt := 1606) dL_law_278 (by decide) ?_
    refine jj_less (L2 := Lw (zE Z) b i) (less9 _ _ _ _ _ _ _ _ _) ?_
    exact kk M2 hI2
set_option maxRecDepth 100000 in
set_option maxHeartbeats 1000000 in
theorem law_clearBuffer {Z : Zt} {b N : Nat} {xs : Nat → Int32} (F : ZF Z code (cxL :: gl) RL room_1) (X : WX Z) (S : LX Z b N xs) (hnl : zn Z = 9) (hst : (zl Z).stackTraces = false) (hN : N ≤ 2560) {κ : Nat × Nat} {M : Mm} {i W : Nat} (hi : i + 5 ≤ N) (hI : INV M W) (hWW : W < 1000) (hκ : κ.1 + 1 ≤ 601024 ∧ κ.2 + 6 ≤ 7293034) (kk : ∀ M2, INV M2 (W + 1) → JJ Z (κ.1 + 1, κ.2 + 6) M2 1606 (Lw (zE Z) b i) []) : JJ Z κ M 281 (Lw (zE Z) b i) [] := by
  obtain ⟨a0, hB0, hM0⟩ := hI
  have hB : RelB M (gz a0 M) W := RelB_gz hB0
  have hM : RelM M (gz a0 M) W := hM0
  have hg : a_g (gz a0 M) = M := rfl
  generalize gz a0 M = a at hB hM hg
  refine jj_aload_n F dL_law_281 rfl ?_
  refine jj_callVi (na := 0) F (b_clearBuffer_0 hB) (gl_V mk_L_103 vw_X8_clearBuffer) rfl rfl rfl (by decide +kernel) ⟨Nat.le_of_ble_eq_true rfl, Nat.le_of_ble_eq_true rfl⟩ kd_0 rfl rfl rfl (Nat.le_of_ble_eq_true rfl) ⟨by show κ.1 + 0 ≤ 601024; omega, by show κ.2 + 0 ≤ 7293034; omega⟩ dL_law_282 (fun r1 M1 hp1 => ?_)
  obtain ⟨e1, hB1⟩ := hp1
  subst e1
  have hM1 := RelM_q hM (RelB_gx hB1) hg
  refine jj_aload_n F dL_law_285 rfl ?_
  refine jj_callVi (na := 0) F (m_clearBuffer_0 hM1) (gl_V mk_L_106 vw_X9_clearBuffer) rfl rfl rfl (by decide +kernel) ⟨Nat.le_of_ble_eq_true rfl, Nat.le_of_ble_eq_true rfl⟩ kd_M rfl rfl rfl (Nat.le_of_ble_eq_true rfl) ⟨by show κ.1 + 0 + 0 ≤ 601024; omega, by show κ.2 + 0 + 0 ≤ 7293034; omega⟩ dL_law_286 (fun r2 M2 hp2 => ?_)
  obtain ⟨e2, hM2, hpub⟩ := hp2
  subst e2
  have hI2 := INV_q hB1 hM2 hpub
  refine jj_icmp_eq F (tgt := 1606) dL_law_289 (by decide) (fun _ => ?_) (fun h9 => absurd rfl h9)
  refine jj_wid (κ2 := (κ.1 + 1, κ.2 + 6)) (Nat.le_succ _) (by show κ.2 + 0 + 0 ≤ κ.2 + 6; omega) ?_
  exact kk M2 hI2
set_option maxRecDepth 100000 in
set_option maxHeartbeats 1000000 in
theorem law_firstError {Z : Zt} {b N : Nat} {xs : Nat → Int32} (F : ZF Z code (cxL :: gl) RL room_1) (X : WX Z) (S : LX Z b N xs) (hnl : zn Z = 9) (hst : (zl Z).stackTraces = false) (hN : N ≤ 2560) {κ : Nat × Nat} {M : Mm} {i W : Nat} (hi : i + 5 ≤ N) (hI : INV M W) (hWW : W < 1000) (hκ : κ.1 + 1 ≤ 601024 ∧ κ.2 + 6 ≤ 7293034) (kk : ∀ M2, INV M2 (W + 1) → JJ Z (κ.1 + 1, κ.2 + 6) M2 1606 (Lw (zE Z) b i) []) : JJ Z κ M 294 (Lw (zE Z) b i) [] := by
  obtain ⟨a0, hB0, hM0⟩ := hI
  have hB : RelB M (gz a0 M) W := RelB_gz hB0
  have hM : RelM M (gz a0 M) W := hM0
  have hg : a_g (gz a0 M) = M := rfl
  generalize gz a0 M = a at hB hM hg
  refine jj_aload_n F dL_law_294 rfl ?_
  refine jj_callVi (na := 0) F (b_firstError_0 hB) (gl_V mk_L_107 vw_X8_firstError) rfl rfl rfl (by decide +kernel) ⟨Nat.le_of_ble_eq_true rfl, Nat.le_of_ble_eq_true rfl⟩ kd_0 rfl rfl rfl (Nat.le_of_ble_eq_true rfl) ⟨by show κ.1 + 0 ≤ 601024; omega, by show κ.2 + 0 ≤ 7293034; omega⟩ dL_law_295 (fun r1 M1 hp1 => ?_)
  obtain ⟨e1, hB1⟩ := hp1
  subst e1
  have hM1 := RelM_q hM (RelB_gx hB1) hg
  refine jj_aload_n F dL_law_298 rfl ?_
  refine jj_callVi (na := 0) F (m_firstError_0 hM1) (gl_V mk_L_110 vw_X9_firstError) rfl rfl rfl (by decide +kernel) ⟨Nat.le_of_ble_eq_true rfl, Nat.le_of_ble_eq_true rfl⟩ kd_M rfl rfl rfl (Nat.le_of_ble_eq_true rfl) ⟨by show κ.1 + 0 + 0 ≤ 601024; omega, by show κ.2 + 0 + 0 ≤ 7293034; omega⟩ dL_law_299 (fun r2 M2 hp2 => ?_)
  obtain ⟨e2, hM2, hpub⟩ := hp2
  subst e2
  have hI2 := INV_q hB1 hM2 hpub
  refine jj_icmp_eq F (tgt := 1606) dL_law_302 (by decide) (fun _ => ?_) (fun h9 => absurd rfl h9)
  refine jj_wid (κ2 := (κ.1 + 1, κ.2 + 6)) (Nat.le_succ _) (by show κ.2 + 0 + 0 ≤ κ.2 + 6; omega) ?_
  exact kk M2 hI2
set_option maxRecDepth 100000 in
set_option maxHeartbeats 1000000 in
theorem law_stroke {Z : Zt} {b N : Nat} {xs : Nat → Int32} (F : ZF Z code (cxL :: gl) RL room_1) (X : WX Z) (S : LX Z b N xs) (hnl : zn Z = 9) (hst : (zl Z).stackTraces = false) (hN : N ≤ 2560) {κ : Nat × Nat} {M : Mm} {i W : Nat} (hi : i + 5 ≤ N) (hI : INV M W) (hWW : W < 1000) (hκ : κ.1 + 1 ≤ 601024 ∧ κ.2 + 6 ≤ 7293034) (kk : ∀ M2, INV M2 (W + 1) → JJ Z (κ.1 + 1, κ.2 + 6) M2 1606 (Lw (zE Z) b i) []) : JJ Z κ M 307 (Lw (zE Z) b i) [] := by
  obtain ⟨k, P, Wp, hk4, hu, hw, hrest⟩ := p_stroke (E := zE Z) hst hI hWW (xs (i + 1)) (xs (i + 2)) (xs (i + 3)) (xs (i + 4))
  refine jj_aload_n F dL_law_307 rfl ?_
  refine jj_aload_n F dL_law_308 rfl ?_
  refine jj_iload F dL_law_309 rfl ?_
  refine jj_iconst F (v := nI 1) dL_law_311 (by decide) ?_
  refine jj_iadd F dL_law_312 ?_
  refine jj_topi (nI_add i 1) ?_
  refine jj_sld F S rfl (by omega) hN dL_law_313 ?_
  refine jj_aload_n F dL_law_314 rfl ?_
  refine jj_iload F dL_law_315 rfl ?_
  refine jj_iconst F (v := nI 2) dL_law_317 (by decide) ?_
  refine jj_iadd F dL_law_318 ?_
  refine jj_topi (nI_add i 2) ?_
  refine jj_sld F S rfl (by omega) hN dL_law_319 ?_
  refine jj_aload_n F dL_law_320 rfl ?_
  refine jj_iload F dL_law_321 rfl ?_
  refine jj_iconst F (v := nI 3) dL_law_323 (by decide) ?_
  refine jj_iadd F dL_law_324 ?_
  refine jj_topi (nI_add i 3) ?_
  refine jj_sld F S rfl (by omega) hN dL_law_325 ?_
  refine jj_aload_n F dL_law_326 rfl ?_
  refine jj_iload F dL_law_327 rfl ?_
  refine jj_iconst F (v := nI 4) dL_law_329 (by decide) ?_
  refine jj_iadd F dL_law_330 ?_
  refine jj_topi (nI_add i 4) ?_
  refine jj_sld F S rfl (by omega) hN dL_law_331 ?_
  refine jj_aload_n F dL_law_332 rfl ?_
  refine jj_callW (na := 6) F X hw (gl_S mk_L_111 vw_L_stroke) rfl rfl rfl (by decide +kernel) ⟨Nat.le_of_ble_eq_true rfl, Nat.le_of_ble_eq_true rfl⟩ rfl rfl (Nat.le_of_ble_eq_true rfl) hκ dL_law_333 (fun r1 M1 hp1 => ?_)
  obtain ⟨e1, h0, Mp, hmp, hfin⟩ := hrest r1 M1 hp1
  subst e1
  refine jj_istore F dL_law_336 (by rw [hnl]; decide) ?_
  dsimp only [lq_st, lq_clr, lq_no]
  refine jj_aload_n F dL_law_338 rfl ?_
  refine jj_aload_n F dL_law_339 rfl ?_
  refine jj_iload F dL_law_340 rfl ?_
  refine jj_iconst F (v := nI 1) dL_law_342 (by decide) ?_
  refine jj_iadd F dL_law_343 ?_
  refine jj_topi (nI_add i 1) ?_
  refine jj_sld F S rfl (by omega) hN dL_law_344 ?_
  refine jj_aload_n F dL_law_345 rfl ?_
  refine jj_iload F dL_law_346 rfl ?_
  refine jj_iconst F (v := nI 2) dL_law_348 (by decide) ?_
  refine jj_iadd F dL_law_349 ?_
  refine jj_topi (nI_add i 2) ?_
  refine jj_sld F S rfl (by omega) hN dL_law_350 ?_
  refine jj_aload_n F dL_law_351 rfl ?_
  refine jj_iload F dL_law_352 rfl ?_
  refine jj_iconst F (v := nI 3) dL_law_354 (by decide) ?_
  refine jj_iadd F dL_law_355 ?_
  refine jj_topi (nI_add i 3) ?_
  refine jj_sld F S rfl (by omega) hN dL_law_356 ?_
  refine jj_aload_n F dL_law_357 rfl ?_
  refine jj_iload F dL_law_358 rfl ?_
  refine jj_iconst F (v := nI 4) dL_law_360 (by decide) ?_
  refine jj_iadd F dL_law_361 ?_
  refine jj_topi (nI_add i 4) ?_
  refine jj_sld F S rfl (by omega) hN dL_law_362 ?_
  refine jj_callVi (na := 4) F hmp (gl_V mk_L_114 vw_X9_stroke) rfl rfl rfl (by decide +kernel) ⟨Nat.le_of_ble_eq_true rfl, Nat.le_of_ble_eq_true rfl⟩ kd_M rfl rfl rfl (Nat.le_of_ble_eq_true rfl) ⟨hκ.1, hκ.2⟩ dL_law_363 (fun r2 M2 hp2 => ?_)
  obtain ⟨hI2, e504, e478, hP2⟩ := hfin r2 M2 hp2
  refine jj_istore F dL_law_366 (by rw [hnl]; decide) ?_
  dsimp only [lq_st, lq_clr, lq_no]
  refine jj_aload_n F dL_law_368 rfl ?_
  refine jj_callVi (na := 0) F c_X9_thrown (gl_V mk_L_97 vw_X9_thrown) rfl rfl rfl (by decide +kernel) ⟨Nat.le_of_ble_eq_true rfl, Nat.le_of_ble_eq_true rfl⟩ kd_M rfl rfl rfl (Nat.le_of_ble_eq_true rfl) ⟨hκ.1, hκ.2⟩ dL_law_369 (fun r3 M3 hp3 => ?_)
  obtain ⟨rfl, rfl⟩ := symm2 hp3
  refine jj_topi e478 ?_
  refine jj_iload F dL_law_372 rfl ?_
  refine jj_icmp_eq F (tgt := 379) dL_law_374 (by decide) (fun _ => ?_) (fun h9 => absurd rfl h9)
  refine jj_iload F dL_law_379 rfl ?_
  by_cases hk0 : k = 0
  · subst hk0
    refine jj_if_ne F (tgt := 396) dL_law_381 (by decide) (fun h9 => absurd rfl h9) (fun _ => ?_)
    obtain ⟨v, hv, hPv⟩ := h0 rfl
    refine jj_aload_n F dL_law_384 rfl ?_
    refine jj_iconst F (v := nI 0) dL_law_385 (by decide) ?_
    refine jj_lald F kd_504 rfl (by omega) dL_law_386 ?_
    refine jj_topl (show M2.2 504 0 = r2.toInt64 by rw [e504, hv, hu r2 v (hP2 rfl) hPv]) ?_
    refine jj_iload F dL_law_387 rfl ?_
    refine jj_i2l F dL_law_389 ?_
    refine jj_lcmp F dL_law_390 ?_
    refine jj_topi (lgc _) ?_
    refine jj_if_eq F (tgt := 396) dL_law_391 (by decide) (fun _ => ?_) (fun h9 => absurd rfl h9)
    refine jj_goto F (tgt := 1606) dL_law_396 (by decide) ?_
    refine jj_less (L2 := Lw (zE Z) b i) (less9 _ _ _ _ _ _ _ _ _) ?_
    exact kk M2 hI2
  · refine jj_if_ne F (tgt := 396) dL_law_381 (by decide) (fun _ => ?_) (fun h9 => absurd h9 (nI_ne0 (by omega) (by omega)))
    refine jj_goto F (tgt := 1606) dL_law_396 (by decide) ?_
    refine jj_less (L2 := Lw (zE Z) b i) (less9 _ _ _ _ _ _ _ _ _) ?_
    exact kk M2 hI2
set_option maxRecDepth 100000 in
set_option maxHeartbeats 1000000 in
theorem law_erase {Z : Zt} {b N : Nat} {xs : Nat → Int32} (F : ZF Z code (cxL :: gl) RL room_1) (X : WX Z) (S : LX Z b N xs) (hnl : zn Z = 9) (hst : (zl Z).stackTraces = false) (hN : N ≤ 2560) {κ : Nat × Nat} {M : Mm} {i W : Nat} (hi : i + 5 ≤ N) (hI : INV M W) (hWW : W < 1000) (hκ : κ.1 + 1 ≤ 601024 ∧ κ.2 + 6 ≤ 7293034) (kk : ∀ M2, INV M2 (W + 1) → JJ Z (κ.1 + 1, κ.2 + 6) M2 1606 (Lw (zE Z) b i) []) : JJ Z κ M 399 (Lw (zE Z) b i) [] := by
  obtain ⟨k, P, Wp, hk4, hu, hw, hrest⟩ := p_erase (E := zE Z) hst hI hWW (xs (i + 1)) (xs (i + 2)) (xs (i + 3))
  refine jj_aload_n F dL_law_399 rfl ?_
  refine jj_aload_n F dL_law_400 rfl ?_
  refine jj_iload F dL_law_401 rfl ?_
  refine jj_iconst F (v := nI 1) dL_law_403 (by decide) ?_
  refine jj_iadd F dL_law_404 ?_
  refine jj_topi (nI_add i 1) ?_
  refine jj_sld F S rfl (by omega) hN dL_law_405 ?_
  refine jj_aload_n F dL_law_406 rfl ?_
  refine jj_iload F dL_law_407 rfl ?_
  refine jj_iconst F (v := nI 2) dL_law_409 (by decide) ?_
  refine jj_iadd F dL_law_410 ?_
  refine jj_topi (nI_add i 2) ?_
  refine jj_sld F S rfl (by omega) hN dL_law_411 ?_
  refine jj_aload_n F dL_law_412 rfl ?_
  refine jj_iload F dL_law_413 rfl ?_
  refine jj_iconst F (v := nI 3) dL_law_415 (by decide) ?_
  refine jj_iadd F dL_law_416 ?_
  refine jj_topi (nI_add i 3) ?_
  refine jj_sld F S rfl (by omega) hN dL_law_417 ?_
  refine jj_aload_n F dL_law_418 rfl ?_
  refine jj_callW (na := 5) F X hw (gl_S mk_L_115 vw_L_erase) rfl rfl rfl (by decide +kernel) ⟨Nat.le_of_ble_eq_true rfl, Nat.le_of_ble_eq_true rfl⟩ rfl rfl (Nat.le_of_ble_eq_true rfl) hκ dL_law_419 (fun r1 M1 hp1 => ?_)
  obtain ⟨e1, h0, Mp, hmp, hfin⟩ := hrest r1 M1 hp1
  subst e1
  refine jj_istore F dL_law_422 (by rw [hnl]; decide) ?_
  dsimp only [lq_st, lq_clr, lq_no]
  refine jj_aload_n F dL_law_424 rfl ?_
  refine jj_aload_n F dL_law_425 rfl ?_
  refine jj_iload F dL_law_426 rfl ?_
  refine jj_iconst F (v := nI 1) dL_law_428 (by decide) ?_
  refine jj_iadd F dL_law_429 ?_
  refine jj_topi (nI_add i 1) ?_
  refine jj_sld F S rfl (by omega) hN dL_law_430 ?_
  refine jj_aload_n F dL_law_431 rfl ?_
  refine jj_iload F dL_law_432 rfl ?_
  refine jj_iconst F (v := nI 2) dL_law_434 (by decide) ?_
  refine jj_iadd F dL_law_435 ?_
  refine jj_topi (nI_add i 2) ?_
  refine jj_sld F S rfl (by omega) hN dL_law_436 ?_
  refine jj_aload_n F dL_law_437 rfl ?_
  refine jj_iload F dL_law_438 rfl ?_
  refine jj_iconst F (v := nI 3) dL_law_440 (by decide) ?_
  refine jj_iadd F dL_law_441 ?_
  refine jj_topi (nI_add i 3) ?_
  refine jj_sld F S rfl (by omega) hN dL_law_442 ?_
  refine jj_callVi (na := 3) F hmp (gl_V mk_L_118 vw_X9_erase) rfl rfl rfl (by decide +kernel) ⟨Nat.le_of_ble_eq_true rfl, Nat.le_of_ble_eq_true rfl⟩ kd_M rfl rfl rfl (Nat.le_of_ble_eq_true rfl) ⟨hκ.1, hκ.2⟩ dL_law_443 (fun r2 M2 hp2 => ?_)
  obtain ⟨hI2, e504, e478, hP2⟩ := hfin r2 M2 hp2
  refine jj_istore F dL_law_446 (by rw [hnl]; decide) ?_
  dsimp only [lq_st, lq_clr, lq_no]
  refine jj_aload_n F dL_law_448 rfl ?_
  refine jj_callVi (na := 0) F c_X9_thrown (gl_V mk_L_97 vw_X9_thrown) rfl rfl rfl (by decide +kernel) ⟨Nat.le_of_ble_eq_true rfl, Nat.le_of_ble_eq_true rfl⟩ kd_M rfl rfl rfl (Nat.le_of_ble_eq_true rfl) ⟨hκ.1, hκ.2⟩ dL_law_449 (fun r3 M3 hp3 => ?_)
  obtain ⟨rfl, rfl⟩ := symm2 hp3
  refine jj_topi e478 ?_
  refine jj_iload F dL_law_452 rfl ?_
  refine jj_icmp_eq F (tgt := 459) dL_law_454 (by decide) (fun _ => ?_) (fun h9 => absurd rfl h9)
  refine jj_iload F dL_law_459 rfl ?_
  by_cases hk0 : k = 0
  · subst hk0
    refine jj_if_ne F (tgt := 476) dL_law_461 (by decide) (fun h9 => absurd rfl h9) (fun _ => ?_)
    obtain ⟨v, hv, hPv⟩ := h0 rfl
    refine jj_aload_n F dL_law_464 rfl ?_
    refine jj_iconst F (v := nI 0) dL_law_465 (by decide) ?_
    refine jj_lald F kd_504 rfl (by omega) dL_law_466 ?_
    refine jj_topl (show M2.2 504 0 = r2.toInt64 by rw [e504, hv, hu r2 v (hP2 rfl) hPv]) ?_
    refine jj_iload F dL_law_467 rfl ?_
    refine jj_i2l F dL_law_469 ?_
    refine jj_lcmp F dL_law_470 ?_
    refine jj_topi (lgc _) ?_
    refine jj_if_eq F (tgt := 476) dL_law_471 (by decide) (fun _ => ?_) (fun h9 => absurd rfl h9)
    refine jj_goto F (tgt := 1606) dL_law_476 (by decide) ?_
    refine jj_less (L2 := Lw (zE Z) b i) (less9 _ _ _ _ _ _ _ _ _) ?_
    exact kk M2 hI2
  · refine jj_if_ne F (tgt := 476) dL_law_461 (by decide) (fun _ => ?_) (fun h9 => absurd h9 (nI_ne0 (by omega) (by omega)))
    refine jj_goto F (tgt := 1606) dL_law_476 (by decide) ?_
    refine jj_less (L2 := Lw (zE Z) b i) (less9 _ _ _ _ _ _ _ _ _) ?_
    exact kk M2 hI2
set_option maxRecDepth 100000 in
set_option maxHeartbeats 1000000 in
theorem law_fill {Z : Zt} {b N : Nat} {xs : Nat → Int32} (F : ZF Z code (cxL :: gl) RL room_1) (X : WX Z) (S : LX Z b N xs) (hnl : zn Z = 9) (hst : (zl Z).stackTraces = false) (hN : N ≤ 2560) {κ : Nat × Nat} {M : Mm} {i W : Nat} (hi : i + 5 ≤ N) (hI : INV M W) (hWW : W < 1000) (hκ : κ.1 + 1 ≤ 601024 ∧ κ.2 + 6 ≤ 7293034) (kk : ∀ M2, INV M2 (W + 1) → JJ Z (κ.1 + 1, κ.2 + 6) M2 1606 (Lw (zE Z) b i) []) : JJ Z κ M 479 (Lw (zE Z) b i) [] := by
  obtain ⟨k, P, Wp, hk4, hu, hw, hrest⟩ := p_fill (E := zE Z) hst hI hWW (xs (i + 1)) (xs (i + 2)) (xs (i + 3)) (xs (i + 4))
  refine jj_aload_n F dL_law_479 rfl ?_
  refine jj_aload_n F dL_law_480 rfl ?_
  refine jj_iload F dL_law_481 rfl ?_
  refine jj_iconst F (v := nI 1) dL_law_483 (by decide) ?_
  refine jj_iadd F dL_law_484 ?_
  refine jj_topi (nI_add i 1) ?_
  refine jj_sld F S rfl (by omega) hN dL_law_485 ?_
  refine jj_aload_n F dL_law_486 rfl ?_
  refine jj_iload F dL_law_487 rfl ?_
  refine jj_iconst F (v := nI 2) dL_law_489 (by decide) ?_
  refine jj_iadd F dL_law_490 ?_
  refine jj_topi (nI_add i 2) ?_
  refine jj_sld F S rfl (by omega) hN dL_law_491 ?_
  refine jj_aload_n F dL_law_492 rfl ?_
  refine jj_iload F dL_law_493 rfl ?_
  refine jj_iconst F (v := nI 3) dL_law_495 (by decide) ?_
  refine jj_iadd F dL_law_496 ?_
  refine jj_topi (nI_add i 3) ?_
  refine jj_sld F S rfl (by omega) hN dL_law_497 ?_
  refine jj_aload_n F dL_law_498 rfl ?_
  refine jj_iload F dL_law_499 rfl ?_
  refine jj_iconst F (v := nI 4) dL_law_501 (by decide) ?_
  refine jj_iadd F dL_law_502 ?_
  refine jj_topi (nI_add i 4) ?_
  refine jj_sld F S rfl (by omega) hN dL_law_503 ?_
  refine jj_aload_n F dL_law_504 rfl ?_
  refine jj_callW (na := 6) F X hw (gl_S mk_L_119 vw_L_fill) rfl rfl rfl (by decide +kernel) ⟨Nat.le_of_ble_eq_true rfl, Nat.le_of_ble_eq_true rfl⟩ rfl rfl (Nat.le_of_ble_eq_true rfl) hκ dL_law_505 (fun r1 M1 hp1 => ?_)
  obtain ⟨e1, h0, Mp, hmp, hfin⟩ := hrest r1 M1 hp1
  subst e1
  refine jj_istore F dL_law_508 (by rw [hnl]; decide) ?_
  dsimp only [lq_st, lq_clr, lq_no]
  refine jj_aload_n F dL_law_510 rfl ?_
  refine jj_aload_n F dL_law_511 rfl ?_
  refine jj_iload F dL_law_512 rfl ?_
  refine jj_iconst F (v := nI 1) dL_law_514 (by decide) ?_
  refine jj_iadd F dL_law_515 ?_
  refine jj_topi (nI_add i 1) ?_
  refine jj_sld F S rfl (by omega) hN dL_law_516 ?_
  refine jj_aload_n F dL_law_517 rfl ?_
  refine jj_iload F dL_law_518 rfl ?_
  refine jj_iconst F (v := nI 2) dL_law_520 (by decide) ?_
  refine jj_iadd F dL_law_521 ?_
  refine jj_topi (nI_add i 2) ?_
  refine jj_sld F S rfl (by omega) hN dL_law_522 ?_
  refine jj_aload_n F dL_law_523 rfl ?_
  refine jj_iload F dL_law_524 rfl ?_
  refine jj_iconst F (v := nI 3) dL_law_526 (by decide) ?_
  refine jj_iadd F dL_law_527 ?_
  refine jj_topi (nI_add i 3) ?_
  refine jj_sld F S rfl (by omega) hN dL_law_528 ?_
  refine jj_aload_n F dL_law_529 rfl ?_
  refine jj_iload F dL_law_530 rfl ?_
  refine jj_iconst F (v := nI 4) dL_law_532 (by decide) ?_
  refine jj_iadd F dL_law_533 ?_
  refine jj_topi (nI_add i 4) ?_
  refine jj_sld F S rfl (by omega) hN dL_law_534 ?_
  refine jj_callVi (na := 4) F hmp (gl_V mk_L_121 vw_X9_fill) rfl rfl rfl (by decide +kernel) ⟨Nat.le_of_ble_eq_true rfl, Nat.le_of_ble_eq_true rfl⟩ kd_M rfl rfl rfl (Nat.le_of_ble_eq_true rfl) ⟨hκ.1, hκ.2⟩ dL_law_535 (fun r2 M2 hp2 => ?_)
  obtain ⟨hI2, e504, e478, hP2⟩ := hfin r2 M2 hp2
  refine jj_istore F dL_law_538 (by rw [hnl]; decide) ?_
  dsimp only [lq_st, lq_clr, lq_no]
  refine jj_aload_n F dL_law_540 rfl ?_
  refine jj_callVi (na := 0) F c_X9_thrown (gl_V mk_L_97 vw_X9_thrown) rfl rfl rfl (by decide +kernel) ⟨Nat.le_of_ble_eq_true rfl, Nat.le_of_ble_eq_true rfl⟩ kd_M rfl rfl rfl (Nat.le_of_ble_eq_true rfl) ⟨hκ.1, hκ.2⟩ dL_law_541 (fun r3 M3 hp3 => ?_)
  obtain ⟨rfl, rfl⟩ := symm2 hp3
  refine jj_topi e478 ?_
  refine jj_iload F dL_law_544 rfl ?_
  refine jj_icmp_eq F (tgt := 551) dL_law_546 (by decide) (fun _ => ?_) (fun h9 => absurd rfl h9)
  refine jj_iload F dL_law_551 rfl ?_
  by_cases hk0 : k = 0
  · subst hk0
    refine jj_if_ne F (tgt := 568) dL_law_553 (by decide) (fun h9 => absurd rfl h9) (fun _ => ?_)
    obtain ⟨v, hv, hPv⟩ := h0 rfl
    refine jj_aload_n F dL_law_556 rfl ?_
    refine jj_iconst F (v := nI 0) dL_law_557 (by decide) ?_
    refine jj_lald F kd_504 rfl (by omega) dL_law_558 ?_
    refine jj_topl (show M2.2 504 0 = r2.toInt64 by rw [e504, hv, hu r2 v (hP2 rfl) hPv]) ?_
    refine jj_iload F dL_law_559 rfl ?_
    refine jj_i2l F dL_law_561 ?_
    refine jj_lcmp F dL_law_562 ?_
    refine jj_topi (lgc _) ?_
    refine jj_if_eq F (tgt := 568) dL_law_563 (by decide) (fun _ => ?_) (fun h9 => absurd rfl h9)
    refine jj_goto F (tgt := 1606) dL_law_568 (by decide) ?_
    refine jj_less (L2 := Lw (zE Z) b i) (less9 _ _ _ _ _ _ _ _ _) ?_
    exact kk M2 hI2
  · refine jj_if_ne F (tgt := 568) dL_law_553 (by decide) (fun _ => ?_) (fun h9 => absurd h9 (nI_ne0 (by omega) (by omega)))
    refine jj_goto F (tgt := 1606) dL_law_568 (by decide) ?_
    refine jj_less (L2 := Lw (zE Z) b i) (less9 _ _ _ _ _ _ _ _ _) ?_
    exact kk M2 hI2
set_option maxRecDepth 100000 in
set_option maxHeartbeats 1000000 in
theorem law_undo {Z : Zt} {b N : Nat} {xs : Nat → Int32} (F : ZF Z code (cxL :: gl) RL room_1) (X : WX Z) (S : LX Z b N xs) (hnl : zn Z = 9) (hst : (zl Z).stackTraces = false) (hN : N ≤ 2560) {κ : Nat × Nat} {M : Mm} {i W : Nat} (hi : i + 5 ≤ N) (hI : INV M W) (hWW : W < 1000) (hκ : κ.1 + 1 ≤ 601024 ∧ κ.2 + 6 ≤ 7293034) (kk : ∀ M2, INV M2 (W + 1) → JJ Z (κ.1 + 1, κ.2 + 6) M2 1606 (Lw (zE Z) b i) []) : JJ Z κ M 571 (Lw (zE Z) b i) [] := by
  obtain ⟨k, P, Wp, hk4, hu, hw, hrest⟩ := p_undo (E := zE Z) hst hI hWW (xs (i + 1))
  refine jj_aload_n F dL_law_571 rfl ?_
  refine jj_aload_n F dL_law_572 rfl ?_
  refine jj_iload F dL_law_573 rfl ?_
  refine jj_iconst F (v := nI 1) dL_law_575 (by decide) ?_
  refine jj_iadd F dL_law_576 ?_
  refine jj_topi (nI_add i 1) ?_
  refine jj_sld F S rfl (by omega) hN dL_law_577 ?_
  refine jj_aload_n F dL_law_578 rfl ?_
  refine jj_callW (na := 3) F X hw (gl_S mk_L_122 vw_L_undo) rfl rfl rfl (by decide +kernel) ⟨Nat.le_of_ble_eq_true rfl, Nat.le_of_ble_eq_true rfl⟩ rfl rfl (Nat.le_of_ble_eq_true rfl) hκ dL_law_579 (fun r1 M1 hp1 => ?_)
  obtain ⟨e1, h0, Mp, hmp, hfin⟩ := hrest r1 M1 hp1
  subst e1
  refine jj_istore F dL_law_582 (by rw [hnl]; decide) ?_
  dsimp only [lq_st, lq_clr, lq_no]
  refine jj_aload_n F dL_law_584 rfl ?_
  refine jj_aload_n F dL_law_585 rfl ?_
  refine jj_iload F dL_law_586 rfl ?_
  refine jj_iconst F (v := nI 1) dL_law_588 (by decide) ?_
  refine jj_iadd F dL_law_589 ?_
  refine jj_topi (nI_add i 1) ?_
  refine jj_sld F S rfl (by omega) hN dL_law_590 ?_
  refine jj_callVi (na := 1) F hmp (gl_V mk_L_124 vw_X9_undo) rfl rfl rfl (by decide +kernel) ⟨Nat.le_of_ble_eq_true rfl, Nat.le_of_ble_eq_true rfl⟩ kd_M rfl rfl rfl (Nat.le_of_ble_eq_true rfl) ⟨hκ.1, hκ.2⟩ dL_law_591 (fun r2 M2 hp2 => ?_)
  obtain ⟨hI2, e504, e478, hP2⟩ := hfin r2 M2 hp2
  refine jj_istore F dL_law_594 (by rw [hnl]; decide) ?_
  dsimp only [lq_st, lq_clr, lq_no]
  refine jj_aload_n F dL_law_596 rfl ?_
  refine jj_callVi (na := 0) F c_X9_thrown (gl_V mk_L_97 vw_X9_thrown) rfl rfl rfl (by decide +kernel) ⟨Nat.le_of_ble_eq_true rfl, Nat.le_of_ble_eq_true rfl⟩ kd_M rfl rfl rfl (Nat.le_of_ble_eq_true rfl) ⟨hκ.1, hκ.2⟩ dL_law_597 (fun r3 M3 hp3 => ?_)
  obtain ⟨rfl, rfl⟩ := symm2 hp3
  refine jj_topi e478 ?_
  refine jj_iload F dL_law_600 rfl ?_
  refine jj_icmp_eq F (tgt := 607) dL_law_602 (by decide) (fun _ => ?_) (fun h9 => absurd rfl h9)
  refine jj_iload F dL_law_607 rfl ?_
  by_cases hk0 : k = 0
  · subst hk0
    refine jj_if_ne F (tgt := 624) dL_law_609 (by decide) (fun h9 => absurd rfl h9) (fun _ => ?_)
    obtain ⟨v, hv, hPv⟩ := h0 rfl
    refine jj_aload_n F dL_law_612 rfl ?_
    refine jj_iconst F (v := nI 0) dL_law_613 (by decide) ?_
    refine jj_lald F kd_504 rfl (by omega) dL_law_614 ?_
    refine jj_topl (show M2.2 504 0 = r2.toInt64 by rw [e504, hv, hu r2 v (hP2 rfl) hPv]) ?_
    refine jj_iload F dL_law_615 rfl ?_
    refine jj_i2l F dL_law_617 ?_
    refine jj_lcmp F dL_law_618 ?_
    refine jj_topi (lgc _) ?_
    refine jj_if_eq F (tgt := 624) dL_law_619 (by decide) (fun _ => ?_) (fun h9 => absurd rfl h9)
    refine jj_goto F (tgt := 1606) dL_law_624 (by decide) ?_
    refine jj_less (L2 := Lw (zE Z) b i) (less9 _ _ _ _ _ _ _ _ _) ?_
    exact kk M2 hI2
  · refine jj_if_ne F (tgt := 624) dL_law_609 (by decide) (fun _ => ?_) (fun h9 => absurd h9 (nI_ne0 (by omega) (by omega)))
    refine jj_goto F (tgt := 1606) dL_law_624 (by decide) ?_
    refine jj_less (L2 := Lw (zE Z) b i) (less9 _ _ _ _ _ _ _ _ _) ?_
    exact kk M2 hI2
set_option maxRecDepth 100000 in
set_option maxHeartbeats 1000000 in
theorem law_redo {Z : Zt} {b N : Nat} {xs : Nat → Int32} (F : ZF Z code (cxL :: gl) RL room_1) (X : WX Z) (S : LX Z b N xs) (hnl : zn Z = 9) (hst : (zl Z).stackTraces = false) (hN : N ≤ 2560) {κ : Nat × Nat} {M : Mm} {i W : Nat} (hi : i + 5 ≤ N) (hI : INV M W) (hWW : W < 1000) (hκ : κ.1 + 1 ≤ 601024 ∧ κ.2 + 6 ≤ 7293034) (kk : ∀ M2, INV M2 (W + 1) → JJ Z (κ.1 + 1, κ.2 + 6) M2 1606 (Lw (zE Z) b i) []) : JJ Z κ M 627 (Lw (zE Z) b i) [] := by
  obtain ⟨k, P, Wp, hk4, hu, hw, hrest⟩ := p_redo (E := zE Z) hst hI hWW (xs (i + 1))
  refine jj_aload_n F dL_law_627 rfl ?_
  refine jj_aload_n F dL_law_628 rfl ?_
  refine jj_iload F dL_law_629 rfl ?_
  refine jj_iconst F (v := nI 1) dL_law_631 (by decide) ?_
  refine jj_iadd F dL_law_632 ?_
  refine jj_topi (nI_add i 1) ?_
  refine jj_sld F S rfl (by omega) hN dL_law_633 ?_
  refine jj_aload_n F dL_law_634 rfl ?_
  refine jj_callW (na := 3) F X hw (gl_S mk_L_125 vw_L_redo) rfl rfl rfl (by decide +kernel) ⟨Nat.le_of_ble_eq_true rfl, Nat.le_of_ble_eq_true rfl⟩ rfl rfl (Nat.le_of_ble_eq_true rfl) hκ dL_law_635 (fun r1 M1 hp1 => ?_)
  obtain ⟨e1, h0, Mp, hmp, hfin⟩ := hrest r1 M1 hp1
  subst e1
  refine jj_istore F dL_law_638 (by rw [hnl]; decide) ?_
  dsimp only [lq_st, lq_clr, lq_no]
  refine jj_aload_n F dL_law_640 rfl ?_
  refine jj_aload_n F dL_law_641 rfl ?_
  refine jj_iload F dL_law_642 rfl ?_
  refine jj_iconst F (v := nI 1) dL_law_644 (by decide) ?_
  refine jj_iadd F dL_law_645 ?_
  refine jj_topi (nI_add i 1) ?_
  refine jj_sld F S rfl (by omega) hN dL_law_646 ?_
  refine jj_callVi (na := 1) F hmp (gl_V mk_L_127 vw_X9_redo) rfl rfl rfl (by decide +kernel) ⟨Nat.le_of_ble_eq_true rfl, Nat.le_of_ble_eq_true rfl⟩ kd_M rfl rfl rfl (Nat.le_of_ble_eq_true rfl) ⟨hκ.1, hκ.2⟩ dL_law_647 (fun r2 M2 hp2 => ?_)
  obtain ⟨hI2, e504, e478, hP2⟩ := hfin r2 M2 hp2
  refine jj_istore F dL_law_650 (by rw [hnl]; decide) ?_
  dsimp only [lq_st, lq_clr, lq_no]
  refine jj_aload_n F dL_law_652 rfl ?_
  refine jj_callVi (na := 0) F c_X9_thrown (gl_V mk_L_97 vw_X9_thrown) rfl rfl rfl (by decide +kernel) ⟨Nat.le_of_ble_eq_true rfl, Nat.le_of_ble_eq_true rfl⟩ kd_M rfl rfl rfl (Nat.le_of_ble_eq_true rfl) ⟨hκ.1, hκ.2⟩ dL_law_653 (fun r3 M3 hp3 => ?_)
  obtain ⟨rfl, rfl⟩ := symm2 hp3
  refine jj_topi e478 ?_
  refine jj_iload F dL_law_656 rfl ?_
  refine jj_icmp_eq F (tgt := 663) dL_law_658 (by decide) (fun _ => ?_) (fun h9 => absurd rfl h9)
  refine jj_iload F dL_law_663 rfl ?_
  by_cases hk0 : k = 0
  · subst hk0
    refine jj_if_ne F (tgt := 680) dL_law_665 (by decide) (fun h9 => absurd rfl h9) (fun _ => ?_)
    obtain ⟨v, hv, hPv⟩ := h0 rfl
    refine jj_aload_n F dL_law_668 rfl ?_
    refine jj_iconst F (v := nI 0) dL_law_669 (by decide) ?_
    refine jj_lald F kd_504 rfl (by omega) dL_law_670 ?_
    refine jj_topl (show M2.2 504 0 = r2.toInt64 by rw [e504, hv, hu r2 v (hP2 rfl) hPv]) ?_
    refine jj_iload F dL_law_671 rfl ?_
    refine jj_i2l F dL_law_673 ?_
    refine jj_lcmp F dL_law_674 ?_
    refine jj_topi (lgc _) ?_
    refine jj_if_eq F (tgt := 680) dL_law_675 (by decide) (fun _ => ?_) (fun h9 => absurd rfl h9)
    refine jj_goto F (tgt := 1606) dL_law_680 (by decide) ?_
    refine jj_less (L2 := Lw (zE Z) b i) (less9 _ _ _ _ _ _ _ _ _) ?_
    exact kk M2 hI2
  · refine jj_if_ne F (tgt := 680) dL_law_665 (by decide) (fun _ => ?_) (fun h9 => absurd h9 (nI_ne0 (by omega) (by omega)))
    refine jj_goto F (tgt := 1606) dL_law_680 (by decide) ?_
    refine jj_less (L2 := Lw (zE Z) b i) (less9 _ _ _ _ _ _ _ _ _) ?_
    exact kk M2 hI2
set_option maxRecDepth 100000 in
set_option maxHeartbeats 1000000 in
theorem law_lease {Z : Zt} {b N : Nat} {xs : Nat → Int32} (F : ZF Z code (cxL :: gl) RL room_1) (X : WX Z) (S : LX Z b N xs) (hnl : zn Z = 9) (hst : (zl Z).stackTraces = false) (hN : N ≤ 2560) {κ : Nat × Nat} {M : Mm} {i W : Nat} (hi : i + 5 ≤ N) (hI : INV M W) (hWW : W < 1000) (hκ : κ.1 + 1 ≤ 601024 ∧ κ.2 + 6 ≤ 7293034) (kk : ∀ M2, INV M2 (W + 1) → JJ Z (κ.1 + 1, κ.2 + 6) M2 1606 (Lw (zE Z) b i) []) : JJ Z κ M 683 (Lw (zE Z) b i) [] := by
  obtain ⟨k, P, Wp, hk4, hu, hw, hrest⟩ := p_lease (E := zE Z) hst hI hWW (xs (i + 1)) (xs (i + 2)) (xs (i + 3)) (xs (i + 4))
  refine jj_aload_n F dL_law_683 rfl ?_
  refine jj_aload_n F dL_law_684 rfl ?_
  refine jj_iload F dL_law_685 rfl ?_
  refine jj_iconst F (v := nI 1) dL_law_687 (by decide) ?_
  refine jj_iadd F dL_law_688 ?_
  refine jj_topi (nI_add i 1) ?_
  refine jj_sld F S rfl (by omega) hN dL_law_689 ?_
  refine jj_aload_n F dL_law_690 rfl ?_
  refine jj_iload F dL_law_691 rfl ?_
  refine jj_iconst F (v := nI 2) dL_law_693 (by decide) ?_
  refine jj_iadd F dL_law_694 ?_
  refine jj_topi (nI_add i 2) ?_
  refine jj_sld F S rfl (by omega) hN dL_law_695 ?_
  refine jj_aload_n F dL_law_696 rfl ?_
  refine jj_iload F dL_law_697 rfl ?_
  refine jj_iconst F (v := nI 3) dL_law_699 (by decide) ?_
  refine jj_iadd F dL_law_700 ?_
  refine jj_topi (nI_add i 3) ?_
  refine jj_sld F S rfl (by omega) hN dL_law_701 ?_
  refine jj_aload_n F dL_law_702 rfl ?_
  refine jj_iload F dL_law_703 rfl ?_
  refine jj_iconst F (v := nI 4) dL_law_705 (by decide) ?_
  refine jj_iadd F dL_law_706 ?_
  refine jj_topi (nI_add i 4) ?_
  refine jj_sld F S rfl (by omega) hN dL_law_707 ?_
  refine jj_aload_n F dL_law_708 rfl ?_
  refine jj_callW (na := 6) F X hw (gl_S mk_L_128 vw_L_lease) rfl rfl rfl (by decide +kernel) ⟨Nat.le_of_ble_eq_true rfl, Nat.le_of_ble_eq_true rfl⟩ rfl rfl (Nat.le_of_ble_eq_true rfl) hκ dL_law_709 (fun r1 M1 hp1 => ?_)
  obtain ⟨e1, h0, Mp, hmp, hfin⟩ := hrest r1 M1 hp1
  subst e1
  refine jj_istore F dL_law_712 (by rw [hnl]; decide) ?_
  dsimp only [lq_st, lq_clr, lq_no]
  refine jj_aload_n F dL_law_714 rfl ?_
  refine jj_aload_n F dL_law_715 rfl ?_
  refine jj_iload F dL_law_716 rfl ?_
  refine jj_iconst F (v := nI 1) dL_law_718 (by decide) ?_
  refine jj_iadd F dL_law_719 ?_
  refine jj_topi (nI_add i 1) ?_
  refine jj_sld F S rfl (by omega) hN dL_law_720 ?_
  refine jj_aload_n F dL_law_721 rfl ?_
  refine jj_iload F dL_law_722 rfl ?_
  refine jj_iconst F (v := nI 2) dL_law_724 (by decide) ?_
  refine jj_iadd F dL_law_725 ?_
  refine jj_topi (nI_add i 2) ?_
  refine jj_sld F S rfl (by omega) hN dL_law_726 ?_
  refine jj_aload_n F dL_law_727 rfl ?_
  refine jj_iload F dL_law_728 rfl ?_
  refine jj_iconst F (v := nI 3) dL_law_730 (by decide) ?_
  refine jj_iadd F dL_law_731 ?_
  refine jj_topi (nI_add i 3) ?_
  refine jj_sld F S rfl (by omega) hN dL_law_732 ?_
  refine jj_aload_n F dL_law_733 rfl ?_
  refine jj_iload F dL_law_734 rfl ?_
  refine jj_iconst F (v := nI 4) dL_law_736 (by decide) ?_
  refine jj_iadd F dL_law_737 ?_
  refine jj_topi (nI_add i 4) ?_
  refine jj_sld F S rfl (by omega) hN dL_law_738 ?_
  refine jj_callVi (na := 4) F hmp (gl_V mk_L_130 vw_X9_lease) rfl rfl rfl (by decide +kernel) ⟨Nat.le_of_ble_eq_true rfl, Nat.le_of_ble_eq_true rfl⟩ kd_M rfl rfl rfl (Nat.le_of_ble_eq_true rfl) ⟨hκ.1, hκ.2⟩ dL_law_739 (fun r2 M2 hp2 => ?_)
  obtain ⟨hI2, e504, e478, hP2⟩ := hfin r2 M2 hp2
  refine jj_istore F dL_law_742 (by rw [hnl]; decide) ?_
  dsimp only [lq_st, lq_clr, lq_no]
  refine jj_aload_n F dL_law_744 rfl ?_
  refine jj_callVi (na := 0) F c_X9_thrown (gl_V mk_L_97 vw_X9_thrown) rfl rfl rfl (by decide +kernel) ⟨Nat.le_of_ble_eq_true rfl, Nat.le_of_ble_eq_true rfl⟩ kd_M rfl rfl rfl (Nat.le_of_ble_eq_true rfl) ⟨hκ.1, hκ.2⟩ dL_law_745 (fun r3 M3 hp3 => ?_)
  obtain ⟨rfl, rfl⟩ := symm2 hp3
  refine jj_topi e478 ?_
  refine jj_iload F dL_law_748 rfl ?_
  refine jj_icmp_eq F (tgt := 755) dL_law_750 (by decide) (fun _ => ?_) (fun h9 => absurd rfl h9)
  refine jj_iload F dL_law_755 rfl ?_
  by_cases hk0 : k = 0
  · subst hk0
    refine jj_if_ne F (tgt := 772) dL_law_757 (by decide) (fun h9 => absurd rfl h9) (fun _ => ?_)
    obtain ⟨v, hv, hPv⟩ := h0 rfl
    refine jj_aload_n F dL_law_760 rfl ?_
    refine jj_iconst F (v := nI 0) dL_law_761 (by decide) ?_
    refine jj_lald F kd_504 rfl (by omega) dL_law_762 ?_
    refine jj_topl (show M2.2 504 0 = r2.toInt64 by rw [e504, hv, hu r2 v (hP2 rfl) hPv]) ?_
    refine jj_iload F dL_law_763 rfl ?_
    refine jj_i2l F dL_law_765 ?_
    refine jj_lcmp F dL_law_766 ?_
    refine jj_topi (lgc _) ?_
    refine jj_if_eq F (tgt := 772) dL_law_767 (by decide) (fun _ => ?_) (fun h9 => absurd rfl h9)
    refine jj_goto F (tgt := 1606) dL_law_772 (by decide) ?_
    refine jj_less (L2 := Lw (zE Z) b i) (less9 _ _ _ _ _ _ _ _ _) ?_
    exact kk M2 hI2
  · refine jj_if_ne F (tgt := 772) dL_law_757 (by decide) (fun _ => ?_) (fun h9 => absurd h9 (nI_ne0 (by omega) (by omega)))
    refine jj_goto F (tgt := 1606) dL_law_772 (by decide) ?_
    refine jj_less (L2 := Lw (zE Z) b i) (less9 _ _ _ _ _ _ _ _ _) ?_
    exact kk M2 hI2
set_option maxRecDepth 100000 in
set_option maxHeartbeats 1000000 in
theorem law_release {Z : Zt} {b N : Nat} {xs : Nat → Int32} (F : ZF Z code (cxL :: gl) RL room_1) (X : WX Z) (S : LX Z b N xs) (hnl : zn Z = 9) (hst : (zl Z).stackTraces = false) (hN : N ≤ 2560) {κ : Nat × Nat} {M : Mm} {i W : Nat} (hi : i + 5 ≤ N) (hI : INV M W) (hWW : W < 1000) (hκ : κ.1 + 1 ≤ 601024 ∧ κ.2 + 6 ≤ 7293034) (kk : ∀ M2, INV M2 (W + 1) → JJ Z (κ.1 + 1, κ.2 + 6) M2 1606 (Lw (zE Z) b i) []) : JJ Z κ M 775 (Lw (zE Z) b i) [] := by
  obtain ⟨k, P, Wp, hk4, hu, hw, hrest⟩ := p_release (E := zE Z) hst hI hWW (xs (i + 1))
  refine jj_aload_n F dL_law_775 rfl ?_
  refine jj_aload_n F dL_law_776 rfl ?_
  refine jj_iload F dL_law_777 rfl ?_
  refine jj_iconst F (v := nI 1) dL_law_779 (by decide) ?_
  refine jj_iadd F dL_law_780 ?_
  refine jj_topi (nI_add i 1) ?_
  refine jj_sld F S rfl (by omega) hN dL_law_781 ?_
  refine jj_aload_n F dL_law_782 rfl ?_
  refine jj_callW (na := 3) F X hw (gl_S mk_L_131 vw_L_release) rfl rfl rfl (by decide +kernel) ⟨Nat.le_of_ble_eq_true rfl, Nat.le_of_ble_eq_true rfl⟩ rfl rfl (Nat.le_of_ble_eq_true rfl) hκ dL_law_783 (fun r1 M1 hp1 => ?_)
  obtain ⟨e1, h0, Mp, hmp, hfin⟩ := hrest r1 M1 hp1
  subst e1
  refine jj_istore F dL_law_786 (by rw [hnl]; decide) ?_
  dsimp only [lq_st, lq_clr, lq_no]
  refine jj_aload_n F dL_law_788 rfl ?_
  refine jj_aload_n F dL_law_789 rfl ?_
  refine jj_iload F dL_law_790 rfl ?_
  refine jj_iconst F (v := nI 1) dL_law_792 (by decide) ?_
  refine jj_iadd F dL_law_793 ?_
  refine jj_topi (nI_add i 1) ?_
  refine jj_sld F S rfl (by omega) hN dL_law_794 ?_
  refine jj_callVi (na := 1) F hmp (gl_V mk_L_133 vw_X9_release) rfl rfl rfl (by decide +kernel) ⟨Nat.le_of_ble_eq_true rfl, Nat.le_of_ble_eq_true rfl⟩ kd_M rfl rfl rfl (Nat.le_of_ble_eq_true rfl) ⟨hκ.1, hκ.2⟩ dL_law_795 (fun r2 M2 hp2 => ?_)
  obtain ⟨hI2, e504, e478, hP2⟩ := hfin r2 M2 hp2
  refine jj_istore F dL_law_798 (by rw [hnl]; decide) ?_
  dsimp only [lq_st, lq_clr, lq_no]
  refine jj_aload_n F dL_law_800 rfl ?_
  refine jj_callVi (na := 0) F c_X9_thrown (gl_V mk_L_97 vw_X9_thrown) rfl rfl rfl (by decide +kernel) ⟨Nat.le_of_ble_eq_true rfl, Nat.le_of_ble_eq_true rfl⟩ kd_M rfl rfl rfl (Nat.le_of_ble_eq_true rfl) ⟨hκ.1, hκ.2⟩ dL_law_801 (fun r3 M3 hp3 => ?_)
  obtain ⟨rfl, rfl⟩ := symm2 hp3
  refine jj_topi e478 ?_
  refine jj_iload F dL_law_804 rfl ?_
  refine jj_icmp_eq F (tgt := 811) dL_law_806 (by decide) (fun _ => ?_) (fun h9 => absurd rfl h9)
  refine jj_iload F dL_law_811 rfl ?_
  by_cases hk0 : k = 0
  · subst hk0
    refine jj_if_ne F (tgt := 828) dL_law_813 (by decide) (fun h9 => absurd rfl h9) (fun _ => ?_)
    obtain ⟨v, hv, hPv⟩ := h0 rfl
    refine jj_aload_n F dL_law_816 rfl ?_
    refine jj_iconst F (v := nI 0) dL_law_817 (by decide) ?_
    refine jj_lald F kd_504 rfl (by omega) dL_law_818 ?_
    refine jj_topl (show M2.2 504 0 = r2.toInt64 by rw [e504, hv, hu r2 v (hP2 rfl) hPv]) ?_
    refine jj_iload F dL_law_819 rfl ?_
    refine jj_i2l F dL_law_821 ?_
    refine jj_lcmp F dL_law_822 ?_
    refine jj_topi (lgc _) ?_
    refine jj_if_eq F (tgt := 828) dL_law_823 (by decide) (fun _ => ?_) (fun h9 => absurd rfl h9)
    refine jj_goto F (tgt := 1606) dL_law_828 (by decide) ?_
    refine jj_less (L2 := Lw (zE Z) b i) (less9 _ _ _ _ _ _ _ _ _) ?_
    exact kk M2 hI2
  · refine jj_if_ne F (tgt := 828) dL_law_813 (by decide) (fun _ => ?_) (fun h9 => absurd h9 (nI_ne0 (by omega) (by omega)))
    refine jj_goto F (tgt := 1606) dL_law_828 (by decide) ?_
    refine jj_less (L2 := Lw (zE Z) b i) (less9 _ _ _ _ _ _ _ _ _) ?_
    exact kk M2 hI2
set_option maxRecDepth 100000 in
set_option maxHeartbeats 1000000 in
theorem law_holder {Z : Zt} {b N : Nat} {xs : Nat → Int32} (F : ZF Z code (cxL :: gl) RL room_1) (X : WX Z) (S : LX Z b N xs) (hnl : zn Z = 9) (hst : (zl Z).stackTraces = false) (hN : N ≤ 2560) {κ : Nat × Nat} {M : Mm} {i W : Nat} (hi : i + 5 ≤ N) (hI : INV M W) (hWW : W < 1000) (hκ : κ.1 + 1 ≤ 601024 ∧ κ.2 + 6 ≤ 7293034) (kk : ∀ M2, INV M2 (W + 1) → JJ Z (κ.1 + 1, κ.2 + 6) M2 1606 (Lw (zE Z) b i) []) : JJ Z κ M 831 (Lw (zE Z) b i) [] := by
  obtain ⟨k, P, Wp, hk4, hu, hw, hrest⟩ := p_holder (E := zE Z) hst hI hWW (xs (i + 1))
  refine jj_aload_n F dL_law_831 rfl ?_
  refine jj_aload_n F dL_law_832 rfl ?_
  refine jj_iload F dL_law_833 rfl ?_
  refine jj_iconst F (v := nI 1) dL_law_835 (by decide) ?_
  refine jj_iadd F dL_law_836 ?_
  refine jj_topi (nI_add i 1) ?_
  refine jj_sld F S rfl (by omega) hN dL_law_837 ?_
  refine jj_aload_n F dL_law_838 rfl ?_
  refine jj_callW (na := 3) F X hw (gl_S mk_L_134 vw_L_holder) rfl rfl rfl (by decide +kernel) ⟨Nat.le_of_ble_eq_true rfl, Nat.le_of_ble_eq_true rfl⟩ rfl rfl (Nat.le_of_ble_eq_true rfl) hκ dL_law_839 (fun r1 M1 hp1 => ?_)
  obtain ⟨e1, h0, Mp, hmp, hfin⟩ := hrest r1 M1 hp1
  subst e1
  refine jj_istore F dL_law_842 (by rw [hnl]; decide) ?_
  dsimp only [lq_st, lq_clr, lq_no]
  refine jj_aload_n F dL_law_844 rfl ?_
  refine jj_aload_n F dL_law_845 rfl ?_
  refine jj_iload F dL_law_846 rfl ?_
  refine jj_iconst F (v := nI 1) dL_law_848 (by decide) ?_
  refine jj_iadd F dL_law_849 ?_
  refine jj_topi (nI_add i 1) ?_
  refine jj_sld F S rfl (by omega) hN dL_law_850 ?_
  refine jj_callVi (na := 1) F hmp (gl_V mk_L_136 vw_X9_holder) rfl rfl rfl (by decide +kernel) ⟨Nat.le_of_ble_eq_true rfl, Nat.le_of_ble_eq_true rfl⟩ kd_M rfl rfl rfl (Nat.le_of_ble_eq_true rfl) ⟨hκ.1, hκ.2⟩ dL_law_851 (fun r2 M2 hp2 => ?_)
  obtain ⟨hI2, e504, e478, hP2⟩ := hfin r2 M2 hp2
  refine jj_istore F dL_law_854 (by rw [hnl]; decide) ?_
  dsimp only [lq_st, lq_clr, lq_no]
  refine jj_aload_n F dL_law_856 rfl ?_
  refine jj_callVi (na := 0) F c_X9_thrown (gl_V mk_L_97 vw_X9_thrown) rfl rfl rfl (by decide +kernel) ⟨Nat.le_of_ble_eq_true rfl, Nat.le_of_ble_eq_true rfl⟩ kd_M rfl rfl rfl (Nat.le_of_ble_eq_true rfl) ⟨hκ.1, hκ.2⟩ dL_law_857 (fun r3 M3 hp3 => ?_)
  obtain ⟨rfl, rfl⟩ := symm2 hp3
  refine jj_topi e478 ?_
  refine jj_iload F dL_law_860 rfl ?_
  refine jj_icmp_eq F (tgt := 867) dL_law_862 (by decide) (fun _ => ?_) (fun h9 => absurd rfl h9)
  refine jj_iload F dL_law_867 rfl ?_
  by_cases hk0 : k = 0
  · subst hk0
    refine jj_if_ne F (tgt := 884) dL_law_869 (by decide) (fun h9 => absurd rfl h9) (fun _ => ?_)
    obtain ⟨v, hv, hPv⟩ := h0 rfl
    refine jj_aload_n F dL_law_872 rfl ?_
    refine jj_iconst F (v := nI 0) dL_law_873 (by decide) ?_
    refine jj_lald F kd_504 rfl (by omega) dL_law_874 ?_
    refine jj_topl (show M2.2 504 0 = r2.toInt64 by rw [e504, hv, hu r2 v (hP2 rfl) hPv]) ?_
    refine jj_iload F dL_law_875 rfl ?_
    refine jj_i2l F dL_law_877 ?_
    refine jj_lcmp F dL_law_878 ?_
    refine jj_topi (lgc _) ?_
    refine jj_if_eq F (tgt := 884) dL_law_879 (by decide) (fun _ => ?_) (fun h9 => absurd rfl h9)
    refine jj_goto F (tgt := 1606) dL_law_884 (by decide) ?_
    refine jj_less (L2 := Lw (zE Z) b i) (less9 _ _ _ _ _ _ _ _ _) ?_
    exact kk M2 hI2
  · refine jj_if_ne F (tgt := 884) dL_law_869 (by decide) (fun _ => ?_) (fun h9 => absurd h9 (nI_ne0 (by omega) (by omega)))
    refine jj_goto F (tgt := 1606) dL_law_884 (by decide) ?_
    refine jj_less (L2 := Lw (zE Z) b i) (less9 _ _ _ _ _ _ _ _ _) ?_
    exact kk M2 hI2
set_option maxRecDepth 100000 in
set_option maxHeartbeats 1000000 in
theorem law_setMark {Z : Zt} {b N : Nat} {xs : Nat → Int32} (F : ZF Z code (cxL :: gl) RL room_1) (X : WX Z) (S : LX Z b N xs) (hnl : zn Z = 9) (hst : (zl Z).stackTraces = false) (hN : N ≤ 2560) {κ : Nat × Nat} {M : Mm} {i W : Nat} (hi : i + 5 ≤ N) (hI : INV M W) (hWW : W < 1000) (hκ : κ.1 + 1 ≤ 601024 ∧ κ.2 + 6 ≤ 7293034) (kk : ∀ M2, INV M2 (W + 1) → JJ Z (κ.1 + 1, κ.2 + 6) M2 1606 (Lw (zE Z) b i) []) : JJ Z κ M 887 (Lw (zE Z) b i) [] := by
  obtain ⟨k, P, Wp, hk4, hu, hw, hrest⟩ := p_setMark (E := zE Z) hst hI hWW (xs (i + 1))
  refine jj_aload_n F dL_law_887 rfl ?_
  refine jj_aload_n F dL_law_888 rfl ?_
  refine jj_iload F dL_law_889 rfl ?_
  refine jj_iconst F (v := nI 1) dL_law_891 (by decide) ?_
  refine jj_iadd F dL_law_892 ?_
  refine jj_topi (nI_add i 1) ?_
  refine jj_sld F S rfl (by omega) hN dL_law_893 ?_
  refine jj_aload_n F dL_law_894 rfl ?_
  refine jj_callW (na := 3) F X hw (gl_S mk_L_137 vw_L_setMark) rfl rfl rfl (by decide +kernel) ⟨Nat.le_of_ble_eq_true rfl, Nat.le_of_ble_eq_true rfl⟩ rfl rfl (Nat.le_of_ble_eq_true rfl) hκ dL_law_895 (fun r1 M1 hp1 => ?_)
  obtain ⟨e1, h0, Mp, hmp, hfin⟩ := hrest r1 M1 hp1
  subst e1
  refine jj_istore F dL_law_898 (by rw [hnl]; decide) ?_
  dsimp only [lq_st, lq_clr, lq_no]
  refine jj_aload_n F dL_law_900 rfl ?_
  refine jj_aload_n F dL_law_901 rfl ?_
  refine jj_iload F dL_law_902 rfl ?_
  refine jj_iconst F (v := nI 1) dL_law_904 (by decide) ?_
  refine jj_iadd F dL_law_905 ?_
  refine jj_topi (nI_add i 1) ?_
  refine jj_sld F S rfl (by omega) hN dL_law_906 ?_
  refine jj_callVi (na := 1) F hmp (gl_V mk_L_139 vw_X9_setMark) rfl rfl rfl (by decide +kernel) ⟨Nat.le_of_ble_eq_true rfl, Nat.le_of_ble_eq_true rfl⟩ kd_M rfl rfl rfl (Nat.le_of_ble_eq_true rfl) ⟨hκ.1, hκ.2⟩ dL_law_907 (fun r2 M2 hp2 => ?_)
  obtain ⟨hI2, e504, e478, hP2⟩ := hfin r2 M2 hp2
  refine jj_istore F dL_law_910 (by rw [hnl]; decide) ?_
  dsimp only [lq_st, lq_clr, lq_no]
  refine jj_aload_n F dL_law_912 rfl ?_
  refine jj_callVi (na := 0) F c_X9_thrown (gl_V mk_L_97 vw_X9_thrown) rfl rfl rfl (by decide +kernel) ⟨Nat.le_of_ble_eq_true rfl, Nat.le_of_ble_eq_true rfl⟩ kd_M rfl rfl rfl (Nat.le_of_ble_eq_true rfl) ⟨hκ.1, hκ.2⟩ dL_law_913 (fun r3 M3 hp3 => ?_)
  obtain ⟨rfl, rfl⟩ := symm2 hp3
  refine jj_topi e478 ?_
  refine jj_iload F dL_law_916 rfl ?_
  refine jj_icmp_eq F (tgt := 923) dL_law_918 (by decide) (fun _ => ?_) (fun h9 => absurd rfl h9)
  refine jj_iload F dL_law_923 rfl ?_
  by_cases hk0 : k = 0
  · subst hk0
    refine jj_if_ne F (tgt := 940) dL_law_925 (by decide) (fun h9 => absurd rfl h9) (fun _ => ?_)
    obtain ⟨v, hv, hPv⟩ := h0 rfl
    refine jj_aload_n F dL_law_928 rfl ?_
    refine jj_iconst F (v := nI 0) dL_law_929 (by decide) ?_
    refine jj_lald F kd_504 rfl (by omega) dL_law_930 ?_
    refine jj_topl (show M2.2 504 0 = r2.toInt64 by rw [e504, hv, hu r2 v (hP2 rfl) hPv]) ?_
    refine jj_iload F dL_law_931 rfl ?_
    refine jj_i2l F dL_law_933 ?_
    refine jj_lcmp F dL_law_934 ?_
    refine jj_topi (lgc _) ?_
    refine jj_if_eq F (tgt := 940) dL_law_935 (by decide) (fun _ => ?_) (fun h9 => absurd rfl h9)
    refine jj_goto F (tgt := 1606) dL_law_940 (by decide) ?_
    refine jj_less (L2 := Lw (zE Z) b i) (less9 _ _ _ _ _ _ _ _ _) ?_
    exact kk M2 hI2
  · refine jj_if_ne F (tgt := 940) dL_law_925 (by decide) (fun _ => ?_) (fun h9 => absurd h9 (nI_ne0 (by omega) (by omega)))
    refine jj_goto F (tgt := 1606) dL_law_940 (by decide) ?_
    refine jj_less (L2 := Lw (zE Z) b i) (less9 _ _ _ _ _ _ _ _ _) ?_
    exact kk M2 hI2
set_option maxRecDepth 100000 in
set_option maxHeartbeats 1000000 in
theorem law_replay {Z : Zt} {b N : Nat} {xs : Nat → Int32} (F : ZF Z code (cxL :: gl) RL room_1) (X : WX Z) (S : LX Z b N xs) (hnl : zn Z = 9) (hst : (zl Z).stackTraces = false) (hN : N ≤ 2560) {κ : Nat × Nat} {M : Mm} {i W : Nat} (hi : i + 5 ≤ N) (hI : INV M W) (hWW : W < 1000) (hκ : κ.1 + 1 ≤ 601024 ∧ κ.2 + 6 ≤ 7293034) (kk : ∀ M2, INV M2 (W + 1) → JJ Z (κ.1 + 1, κ.2 + 6) M2 1606 (Lw (zE Z) b i) []) : JJ Z κ M 943 (Lw (zE Z) b i) [] := by
  obtain ⟨k, P, Wp, hk4, hu, hw, hrest⟩ := p_replay (E := zE Z) hst hI hWW (xs (i + 1)) (xs (i + 2))
  refine jj_aload_n F dL_law_943 rfl ?_
  refine jj_aload_n F dL_law_944 rfl ?_
  refine jj_iload F dL_law_945 rfl ?_
  refine jj_iconst F (v := nI 1) dL_law_947 (by decide) ?_
  refine jj_iadd F dL_law_948 ?_
  refine jj_topi (nI_add i 1) ?_
  refine jj_sld F S rfl (by omega) hN dL_law_949 ?_
  refine jj_aload_n F dL_law_950 rfl ?_
  refine jj_iload F dL_law_951 rfl ?_
  refine jj_iconst F (v := nI 2) dL_law_953 (by decide) ?_
  refine jj_iadd F dL_law_954 ?_
  refine jj_topi (nI_add i 2) ?_
  refine jj_sld F S rfl (by omega) hN dL_law_955 ?_
  refine jj_aload_n F dL_law_956 rfl ?_
  refine jj_callW (na := 4) F X hw (gl_S mk_L_140 vw_L_replay) rfl rfl rfl (by decide +kernel) ⟨Nat.le_of_ble_eq_true rfl, Nat.le_of_ble_eq_true rfl⟩ rfl rfl (Nat.le_of_ble_eq_true rfl) hκ dL_law_957 (fun r1 M1 hp1 => ?_)
  obtain ⟨e1, h0, Mp, hmp, hfin⟩ := hrest r1 M1 hp1
  subst e1
  refine jj_istore F dL_law_960 (by rw [hnl]; decide) ?_
  dsimp only [lq_st, lq_clr, lq_no]
  refine jj_aload_n F dL_law_962 rfl ?_
  refine jj_aload_n F dL_law_963 rfl ?_
  refine jj_iload F dL_law_964 rfl ?_
  refine jj_iconst F (v := nI 1) dL_law_966 (by decide) ?_
  refine jj_iadd F dL_law_967 ?_
  refine jj_topi (nI_add i 1) ?_
  refine jj_sld F S rfl (by omega) hN dL_law_968 ?_
  refine jj_aload_n F dL_law_969 rfl ?_
  refine jj_iload F dL_law_970 rfl ?_
  refine jj_iconst F (v := nI 2) dL_law_972 (by decide) ?_
  refine jj_iadd F dL_law_973 ?_
  refine jj_topi (nI_add i 2) ?_
  refine jj_sld F S rfl (by omega) hN dL_law_974 ?_
  refine jj_callVi (na := 2) F hmp (gl_V mk_L_143 vw_X9_replay) rfl rfl rfl (by decide +kernel) ⟨Nat.le_of_ble_eq_true rfl, Nat.le_of_ble_eq_true rfl⟩ kd_M rfl rfl rfl (Nat.le_of_ble_eq_true rfl) ⟨hκ.1, hκ.2⟩ dL_law_975 (fun r2 M2 hp2 => ?_)
  obtain ⟨hI2, e504, e478, hP2⟩ := hfin r2 M2 hp2
  refine jj_istore F dL_law_978 (by rw [hnl]; decide) ?_
  dsimp only [lq_st, lq_clr, lq_no]
  refine jj_aload_n F dL_law_980 rfl ?_
  refine jj_callVi (na := 0) F c_X9_thrown (gl_V mk_L_97 vw_X9_thrown) rfl rfl rfl (by decide +kernel) ⟨Nat.le_of_ble_eq_true rfl, Nat.le_of_ble_eq_true rfl⟩ kd_M rfl rfl rfl (Nat.le_of_ble_eq_true rfl) ⟨hκ.1, hκ.2⟩ dL_law_981 (fun r3 M3 hp3 => ?_)
  obtain ⟨rfl, rfl⟩ := symm2 hp3
  refine jj_topi e478 ?_
  refine jj_iload F dL_law_984 rfl ?_
  refine jj_icmp_eq F (tgt := 991) dL_law_986 (by decide) (fun _ => ?_) (fun h9 => absurd rfl h9)
  refine jj_iload F dL_law_991 rfl ?_
  by_cases hk0 : k = 0
  · subst hk0
    refine jj_if_ne F (tgt := 1008) dL_law_993 (by decide) (fun h9 => absurd rfl h9) (fun _ => ?_)
    obtain ⟨v, hv, hPv⟩ := h0 rfl
    refine jj_aload_n F dL_law_996 rfl ?_
    refine jj_iconst F (v := nI 0) dL_law_997 (by decide) ?_
    refine jj_lald F kd_504 rfl (by omega) dL_law_998 ?_
    refine jj_topl (show M2.2 504 0 = r2.toInt64 by rw [e504, hv, hu r2 v (hP2 rfl) hPv]) ?_
    refine jj_iload F dL_law_999 rfl ?_
    refine jj_i2l F dL_law_1001 ?_
    refine jj_lcmp F dL_law_1002 ?_
    refine jj_topi (lgc _) ?_
    refine jj_if_eq F (tgt := 1008) dL_law_1003 (by decide) (fun _ => ?_) (fun h9 => absurd rfl h9)
    refine jj_goto F (tgt := 1606) dL_law_1008 (by decide) ?_
    refine jj_less (L2 := Lw (zE Z) b i) (less9 _ _ _ _ _ _ _ _ _) ?_
    exact kk M2 hI2
  · refine jj_if_ne F (tgt := 1008) dL_law_993 (by decide) (fun _ => ?_) (fun h9 => absurd h9 (nI_ne0 (by omega) (by omega)))
    refine jj_goto F (tgt := 1606) dL_law_1008 (by decide) ?_
    refine jj_less (L2 := Lw (zE Z) b i) (less9 _ _ _ _ _ _ _ _ _) ?_
    exact kk M2 hI2
set_option maxRecDepth 100000 in
set_option maxHeartbeats 1000000 in
theorem law_difference {Z : Zt} {b N : Nat} {xs : Nat → Int32} (F : ZF Z code (cxL :: gl) RL room_1) (X : WX Z) (S : LX Z b N xs) (hnl : zn Z = 9) (hst : (zl Z).stackTraces = false) (hN : N ≤ 2560) {κ : Nat × Nat} {M : Mm} {i W : Nat} (hi : i + 5 ≤ N) (hI : INV M W) (hWW : W < 1000) (hκ : κ.1 + 1 ≤ 601024 ∧ κ.2 + 6 ≤ 7293034) (kk : ∀ M2, INV M2 (W + 1) → JJ Z (κ.1 + 1, κ.2 + 6) M2 1606 (Lw (zE Z) b i) []) : JJ Z κ M 1011 (Lw (zE Z) b i) [] := by
  obtain ⟨k, P, Wp, hk4, hu, hw, hrest⟩ := p_difference (E := zE Z) hst hI hWW (xs (i + 1))
  refine jj_aload_n F dL_law_1011 rfl ?_
  refine jj_aload_n F dL_law_1012 rfl ?_
  refine jj_iload F dL_law_1013 rfl ?_
  refine jj_iconst F (v := nI 1) dL_law_1015 (by decide) ?_
  refine jj_iadd F dL_law_1016 ?_
  refine jj_topi (nI_add i 1) ?_
  refine jj_sld F S rfl (by omega) hN dL_law_1017 ?_
  refine jj_aload_n F dL_law_1018 rfl ?_
  refine jj_callW (na := 3) F X hw (gl_S mk_L_144 vw_L_difference) rfl rfl rfl (by decide +kernel) ⟨Nat.le_of_ble_eq_true rfl, Nat.le_of_ble_eq_true rfl⟩ rfl rfl (Nat.le_of_ble_eq_true rfl) hκ dL_law_1019 (fun r1 M1 hp1 => ?_)
  obtain ⟨e1, h0, Mp, hmp, hfin⟩ := hrest r1 M1 hp1
  subst e1
  refine jj_istore F dL_law_1022 (by rw [hnl]; decide) ?_
  dsimp only [lq_st, lq_clr, lq_no]
  refine jj_aload_n F dL_law_1024 rfl ?_
  refine jj_aload_n F dL_law_1025 rfl ?_
  refine jj_iload F dL_law_1026 rfl ?_
  refine jj_iconst F (v := nI 1) dL_law_1028 (by decide) ?_
  refine jj_iadd F dL_law_1029 ?_
  refine jj_topi (nI_add i 1) ?_
  refine jj_sld F S rfl (by omega) hN dL_law_1030 ?_
  refine jj_callVi (na := 1) F hmp (gl_V mk_L_146 vw_X9_difference) rfl rfl rfl (by decide +kernel) ⟨Nat.le_of_ble_eq_true rfl, Nat.le_of_ble_eq_true rfl⟩ kd_M rfl rfl rfl (Nat.le_of_ble_eq_true rfl) ⟨hκ.1, hκ.2⟩ dL_law_1031 (fun r2 M2 hp2 => ?_)
  obtain ⟨hI2, e504, e478, hP2⟩ := hfin r2 M2 hp2
  refine jj_istore F dL_law_1034 (by rw [hnl]; decide) ?_
  dsimp only [lq_st, lq_clr, lq_no]
  refine jj_aload_n F dL_law_1036 rfl ?_
  refine jj_callVi (na := 0) F c_X9_thrown (gl_V mk_L_97 vw_X9_thrown) rfl rfl rfl (by decide +kernel) ⟨Nat.le_of_ble_eq_true rfl, Nat.le_of_ble_eq_true rfl⟩ kd_M rfl rfl rfl (Nat.le_of_ble_eq_true rfl) ⟨hκ.1, hκ.2⟩ dL_law_1037 (fun r3 M3 hp3 => ?_)
  obtain ⟨rfl, rfl⟩ := symm2 hp3
  refine jj_topi e478 ?_
  refine jj_iload F dL_law_1040 rfl ?_
  refine jj_icmp_eq F (tgt := 1047) dL_law_1042 (by decide) (fun _ => ?_) (fun h9 => absurd rfl h9)
  refine jj_iload F dL_law_1047 rfl ?_
  by_cases hk0 : k = 0
  · subst hk0
    refine jj_if_ne F (tgt := 1064) dL_law_1049 (by decide) (fun h9 => absurd rfl h9) (fun _ => ?_)
    obtain ⟨v, hv, hPv⟩ := h0 rfl
    refine jj_aload_n F dL_law_1052 rfl ?_
    refine jj_iconst F (v := nI 0) dL_law_1053 (by decide) ?_
    refine jj_lald F kd_504 rfl (by omega) dL_law_1054 ?_
    refine jj_topl (show M2.2 504 0 = r2.toInt64 by rw [e504, hv, hu r2 v (hP2 rfl) hPv]) ?_
    refine jj_iload F dL_law_1055 rfl ?_
    refine jj_i2l F dL_law_1057 ?_
    refine jj_lcmp F dL_law_1058 ?_
    refine jj_topi (lgc _) ?_
    refine jj_if_eq F (tgt := 1064) dL_law_1059 (by decide) (fun _ => ?_) (fun h9 => absurd rfl h9)
    refine jj_goto F (tgt := 1606) dL_law_1064 (by decide) ?_
    refine jj_less (L2 := Lw (zE Z) b i) (less9 _ _ _ _ _ _ _ _ _) ?_
    exact kk M2 hI2
  · refine jj_if_ne F (tgt := 1064) dL_law_1049 (by decide) (fun _ => ?_) (fun h9 => absurd h9 (nI_ne0 (by omega) (by omega)))
    refine jj_goto F (tgt := 1606) dL_law_1064 (by decide) ?_
    refine jj_less (L2 := Lw (zE Z) b i) (less9 _ _ _ _ _ _ _ _ _) ?_
    exact kk M2 hI2
set_option maxRecDepth 100000 in
set_option maxHeartbeats 1000000 in
theorem law_rewind {Z : Zt} {b N : Nat} {xs : Nat → Int32} (F : ZF Z code (cxL :: gl) RL room_1) (X : WX Z) (S : LX Z b N xs) (hnl : zn Z = 9) (hst : (zl Z).stackTraces = false) (hN : N ≤ 2560) {κ : Nat × Nat} {M : Mm} {i W : Nat} (hi : i + 5 ≤ N) (hI : INV M W) (hWW : W < 1000) (hκ : κ.1 + 1 ≤ 601024 ∧ κ.2 + 6 ≤ 7293034) (kk : ∀ M2, INV M2 (W + 1) → JJ Z (κ.1 + 1, κ.2 + 6) M2 1606 (Lw (zE Z) b i) []) : JJ Z κ M 1067 (Lw (zE Z) b i) [] := by
  obtain ⟨k, P, Wp, hk4, hu, hw, hrest⟩ := p_rewind (E := zE Z) hst hI hWW (xs (i + 1))
  refine jj_aload_n F dL_law_1067 rfl ?_
  refine jj_aload_n F dL_law_1068 rfl ?_
  refine jj_iload F dL_law_1069 rfl ?_
  refine jj_iconst F (v := nI 1) dL_law_1071 (by decide) ?_
  refine jj_iadd F dL_law_1072 ?_
  refine jj_topi (nI_add i 1) ?_
  refine jj_sld F S rfl (by omega) hN dL_law_1073 ?_
  refine jj_aload_n F dL_law_1074 rfl ?_
  refine jj_callW (na := 3) F X hw (gl_S mk_L_147 vw_L_rewind) rfl rfl rfl (by decide +kernel) ⟨Nat.le_of_ble_eq_true rfl, Nat.le_of_ble_eq_true rfl⟩ rfl rfl (Nat.le_of_ble_eq_true rfl) hκ dL_law_1075 (fun r1 M1 hp1 => ?_)
  obtain ⟨e1, h0, Mp, hmp, hfin⟩ := hrest r1 M1 hp1
  subst e1
  refine jj_istore F dL_law_1078 (by rw [hnl]; decide) ?_
  dsimp only [lq_st, lq_clr, lq_no]
  refine jj_aload_n F dL_law_1080 rfl ?_
  refine jj_aload_n F dL_law_1081 rfl ?_
  refine jj_iload F dL_law_1082 rfl ?_
  refine jj_iconst F (v := nI 1) dL_law_1084 (by decide) ?_
  refine jj_iadd F dL_law_1085 ?_
  refine jj_topi (nI_add i 1) ?_
  refine jj_sld F S rfl (by omega) hN dL_law_1086 ?_
  refine jj_callVi (na := 1) F hmp (gl_V mk_L_149 vw_X9_rewind) rfl rfl rfl (by decide +kernel) ⟨Nat.le_of_ble_eq_true rfl, Nat.le_of_ble_eq_true rfl⟩ kd_M rfl rfl rfl (Nat.le_of_ble_eq_true rfl) ⟨hκ.1, hκ.2⟩ dL_law_1087 (fun r2 M2 hp2 => ?_)
  obtain ⟨hI2, e504, e478, hP2⟩ := hfin r2 M2 hp2
  refine jj_istore F dL_law_1090 (by rw [hnl]; decide) ?_
  dsimp only [lq_st, lq_clr, lq_no]
  refine jj_aload_n F dL_law_1092 rfl ?_
  refine jj_callVi (na := 0) F c_X9_thrown (gl_V mk_L_97 vw_X9_thrown) rfl rfl rfl (by decide +kernel) ⟨Nat.le_of_ble_eq_true rfl, Nat.le_of_ble_eq_true rfl⟩ kd_M rfl rfl rfl (Nat.le_of_ble_eq_true rfl) ⟨hκ.1, hκ.2⟩ dL_law_1093 (fun r3 M3 hp3 => ?_)
  obtain ⟨rfl, rfl⟩ := symm2 hp3
  refine jj_topi e478 ?_
  refine jj_iload F dL_law_1096 rfl ?_
  refine jj_icmp_eq F (tgt := 1103) dL_law_1098 (by decide) (fun _ => ?_) (fun h9 => absurd rfl h9)
  refine jj_iload F dL_law_1103 rfl ?_
  by_cases hk0 : k = 0
  · subst hk0
    refine jj_if_ne F (tgt := 1120) dL_law_1105 (by decide) (fun h9 => absurd rfl h9) (fun _ => ?_)
    obtain ⟨v, hv, hPv⟩ := h0 rfl
    refine jj_aload_n F dL_law_1108 rfl ?_
    refine jj_iconst F (v := nI 0) dL_law_1109 (by decide) ?_
    refine jj_lald F kd_504 rfl (by omega) dL_law_1110 ?_
    refine jj_topl (show M2.2 504 0 = r2.toInt64 by rw [e504, hv, hu r2 v (hP2 rfl) hPv]) ?_
    refine jj_iload F dL_law_1111 rfl ?_
    refine jj_i2l F dL_law_1113 ?_
    refine jj_lcmp F dL_law_1114 ?_
    refine jj_topi (lgc _) ?_
    refine jj_if_eq F (tgt := 1120) dL_law_1115 (by decide) (fun _ => ?_) (fun h9 => absurd rfl h9)
    refine jj_goto F (tgt := 1606) dL_law_1120 (by decide) ?_
    refine jj_less (L2 := Lw (zE Z) b i) (less9 _ _ _ _ _ _ _ _ _) ?_
    exact kk M2 hI2
  · refine jj_if_ne F (tgt := 1120) dL_law_1105 (by decide) (fun _ => ?_) (fun h9 => absurd h9 (nI_ne0 (by omega) (by omega)))
    refine jj_goto F (tgt := 1606) dL_law_1120 (by decide) ?_
    refine jj_less (L2 := Lw (zE Z) b i) (less9 _ _ _ _ _ _ _ _ _) ?_
    exact kk M2 hI2
set_option maxRecDepth 100000 in
set_option maxHeartbeats 1000000 in
theorem law_color {Z : Zt} {b N : Nat} {xs : Nat → Int32} (F : ZF Z code (cxL :: gl) RL room_1) (X : WX Z) (S : LX Z b N xs) (hnl : zn Z = 9) (hst : (zl Z).stackTraces = false) (hN : N ≤ 2560) {κ : Nat × Nat} {M : Mm} {i W : Nat} (hi : i + 5 ≤ N) (hI : INV M W) (hWW : W < 1000) (hκ : κ.1 + 1 ≤ 601024 ∧ κ.2 + 6 ≤ 7293034) (kk : ∀ M2, INV M2 (W + 1) → JJ Z (κ.1 + 1, κ.2 + 6) M2 1606 (Lw (zE Z) b i) []) : JJ Z κ M 1123 (Lw (zE Z) b i) [] := by
  obtain ⟨k, P, Wp, hk4, hu, hw, hrest⟩ := p_color (E := zE Z) hst hI hWW (xs (i + 1))
  refine jj_aload_n F dL_law_1123 rfl ?_
  refine jj_aload_n F dL_law_1124 rfl ?_
  refine jj_iload F dL_law_1125 rfl ?_
  refine jj_iconst F (v := nI 1) dL_law_1127 (by decide) ?_
  refine jj_iadd F dL_law_1128 ?_
  refine jj_topi (nI_add i 1) ?_
  refine jj_sld F S rfl (by omega) hN dL_law_1129 ?_
  refine jj_aload_n F dL_law_1130 rfl ?_
  refine jj_callW (na := 3) F X hw (gl_S mk_L_150 vw_L_color) rfl rfl rfl (by decide +kernel) ⟨Nat.le_of_ble_eq_true rfl, Nat.le_of_ble_eq_true rfl⟩ rfl rfl (Nat.le_of_ble_eq_true rfl) hκ dL_law_1131 (fun r1 M1 hp1 => ?_)
  obtain ⟨e1, h0, Mp, hmp, hfin⟩ := hrest r1 M1 hp1
  subst e1
  refine jj_istore F dL_law_1134 (by rw [hnl]; decide) ?_
  dsimp only [lq_st, lq_clr, lq_no]
  refine jj_aload_n F dL_law_1136 rfl ?_
  refine jj_aload_n F dL_law_1137 rfl ?_
  refine jj_iload F dL_law_1138 rfl ?_
  refine jj_iconst F (v := nI 1) dL_law_1140 (by decide) ?_
  refine jj_iadd F dL_law_1141 ?_
  refine jj_topi (nI_add i 1) ?_
  refine jj_sld F S rfl (by omega) hN dL_law_1142 ?_
  refine jj_callVi (na := 1) F hmp (gl_V mk_L_152 vw_X9_color) rfl rfl rfl (by decide +kernel) ⟨Nat.le_of_ble_eq_true rfl, Nat.le_of_ble_eq_true rfl⟩ kd_M rfl rfl rfl (Nat.le_of_ble_eq_true rfl) ⟨hκ.1, hκ.2⟩ dL_law_1143 (fun r2 M2 hp2 => ?_)
  obtain ⟨hI2, e504, e478, hP2⟩ := hfin r2 M2 hp2
  refine jj_istore F dL_law_1146 (by rw [hnl]; decide) ?_
  dsimp only [lq_st, lq_clr, lq_no]
  refine jj_aload_n F dL_law_1148 rfl ?_
  refine jj_callVi (na := 0) F c_X9_thrown (gl_V mk_L_97 vw_X9_thrown) rfl rfl rfl (by decide +kernel) ⟨Nat.le_of_ble_eq_true rfl, Nat.le_of_ble_eq_true rfl⟩ kd_M rfl rfl rfl (Nat.le_of_ble_eq_true rfl) ⟨hκ.1, hκ.2⟩ dL_law_1149 (fun r3 M3 hp3 => ?_)
  obtain ⟨rfl, rfl⟩ := symm2 hp3
  refine jj_topi e478 ?_
  refine jj_iload F dL_law_1152 rfl ?_
  refine jj_icmp_eq F (tgt := 1159) dL_law_1154 (by decide) (fun _ => ?_) (fun h9 => absurd rfl h9)
  refine jj_iload F dL_law_1159 rfl ?_
  by_cases hk0 : k = 0
  · subst hk0
    refine jj_if_ne F (tgt := 1176) dL_law_1161 (by decide) (fun h9 => absurd rfl h9) (fun _ => ?_)
    obtain ⟨v, hv, hPv⟩ := h0 rfl
    refine jj_aload_n F dL_law_1164 rfl ?_
    refine jj_iconst F (v := nI 0) dL_law_1165 (by decide) ?_
    refine jj_lald F kd_504 rfl (by omega) dL_law_1166 ?_
    refine jj_topl (show M2.2 504 0 = r2.toInt64 by rw [e504, hv, hu r2 v (hP2 rfl) hPv]) ?_
    refine jj_iload F dL_law_1167 rfl ?_
    refine jj_i2l F dL_law_1169 ?_
    refine jj_lcmp F dL_law_1170 ?_
    refine jj_topi (lgc _) ?_
    refine jj_if_eq F (tgt := 1176) dL_law_1171 (by decide) (fun _ => ?_) (fun h9 => absurd rfl h9)
    refine jj_goto F (tgt := 1606) dL_law_1176 (by decide) ?_
    refine jj_less (L2 := Lw (zE Z) b i) (less9 _ _ _ _ _ _ _ _ _) ?_
    exact kk M2 hI2
  · refine jj_if_ne F (tgt := 1176) dL_law_1161 (by decide) (fun _ => ?_) (fun h9 => absurd h9 (nI_ne0 (by omega) (by omega)))
    refine jj_goto F (tgt := 1606) dL_law_1176 (by decide) ?_
    refine jj_less (L2 := Lw (zE Z) b i) (less9 _ _ _ _ _ _ _ _ _) ?_
    exact kk M2 hI2
set_option maxRecDepth 100000 in
set_option maxHeartbeats 1000000 in
theorem law_colorLater {Z : Zt} {b N : Nat} {xs : Nat → Int32} (F : ZF Z code (cxL :: gl) RL room_1) (X : WX Z) (S : LX Z b N xs) (hnl : zn Z = 9) (hst : (zl Z).stackTraces = false) (hN : N ≤ 2560) {κ : Nat × Nat} {M : Mm} {i W : Nat} (hi : i + 5 ≤ N) (hI : INV M W) (hWW : W < 1000) (hκ : κ.1 + 1 ≤ 601024 ∧ κ.2 + 6 ≤ 7293034) (kk : ∀ M2, INV M2 (W + 1) → JJ Z (κ.1 + 1, κ.2 + 6) M2 1606 (Lw (zE Z) b i) []) : JJ Z κ M 1179 (Lw (zE Z) b i) [] := by
  obtain ⟨k, P, Wp, hk4, hu, hw, hrest⟩ := p_colorLater (E := zE Z) hst hI hWW (xs (i + 1)) (xs (i + 2))
  refine jj_aload_n F dL_law_1179 rfl ?_
  refine jj_aload_n F dL_law_1180 rfl ?_
  refine jj_iload F dL_law_1181 rfl ?_
  refine jj_iconst F (v := nI 1) dL_law_1183 (by decide) ?_
  refine jj_iadd F dL_law_1184 ?_
  refine jj_topi (nI_add i 1) ?_
  refine jj_sld F S rfl (by omega) hN dL_law_1185 ?_
  refine jj_aload_n F dL_law_1186 rfl ?_
  refine jj_iload F dL_law_1187 rfl ?_
  refine jj_iconst F (v := nI 2) dL_law_1189 (by decide) ?_
  refine jj_iadd F dL_law_1190 ?_
  refine jj_topi (nI_add i 2) ?_
  refine jj_sld F S rfl (by omega) hN dL_law_1191 ?_
  refine jj_aload_n F dL_law_1192 rfl ?_
  refine jj_callW (na := 4) F X hw (gl_S mk_L_153 vw_L_colorLater) rfl rfl rfl (by decide +kernel) ⟨Nat.le_of_ble_eq_true rfl, Nat.le_of_ble_eq_true rfl⟩ rfl rfl (Nat.le_of_ble_eq_true rfl) hκ dL_law_1193 (fun r1 M1 hp1 => ?_)
  obtain ⟨e1, h0, Mp, hmp, hfin⟩ := hrest r1 M1 hp1
  subst e1
  refine jj_istore F dL_law_1196 (by rw [hnl]; decide) ?_
  dsimp only [lq_st, lq_clr, lq_no]
  refine jj_aload_n F dL_law_1198 rfl ?_
  refine jj_aload_n F dL_law_1199 rfl ?_
  refine jj_iload F dL_law_1200 rfl ?_
  refine jj_iconst F (v := nI 1) dL_law_1202 (by decide) ?_
  refine jj_iadd F dL_law_1203 ?_
  refine jj_topi (nI_add i 1) ?_
  refine jj_sld F S rfl (by omega) hN dL_law_1204 ?_
  refine jj_aload_n F dL_law_1205 rfl ?_
  refine jj_iload F dL_law_1206 rfl ?_
  refine jj_iconst F (v := nI 2) dL_law_1208 (by decide) ?_
  refine jj_iadd F dL_law_1209 ?_
  refine jj_topi (nI_add i 2) ?_
  refine jj_sld F S rfl (by omega) hN dL_law_1210 ?_
  refine jj_callVi (na := 2) F hmp (gl_V mk_L_155 vw_X9_colorLater) rfl rfl rfl (by decide +kernel) ⟨Nat.le_of_ble_eq_true rfl, Nat.le_of_ble_eq_true rfl⟩ kd_M rfl rfl rfl (Nat.le_of_ble_eq_true rfl) ⟨hκ.1, hκ.2⟩ dL_law_1211 (fun r2 M2 hp2 => ?_)
  obtain ⟨hI2, e504, e478, hP2⟩ := hfin r2 M2 hp2
  refine jj_istore F dL_law_1214 (by rw [hnl]; decide) ?_
  dsimp only [lq_st, lq_clr, lq_no]
  refine jj_aload_n F dL_law_1216 rfl ?_
  refine jj_callVi (na := 0) F c_X9_thrown (gl_V mk_L_97 vw_X9_thrown) rfl rfl rfl (by decide +kernel) ⟨Nat.le_of_ble_eq_true rfl, Nat.le_of_ble_eq_true rfl⟩ kd_M rfl rfl rfl (Nat.le_of_ble_eq_true rfl) ⟨hκ.1, hκ.2⟩ dL_law_1217 (fun r3 M3 hp3 => ?_)
  obtain ⟨rfl, rfl⟩ := symm2 hp3
  refine jj_topi e478 ?_
  refine jj_iload F dL_law_1220 rfl ?_
  refine jj_icmp_eq F (tgt := 1227) dL_law_1222 (by decide) (fun _ => ?_) (fun h9 => absurd rfl h9)
  refine jj_iload F dL_law_1227 rfl ?_
  by_cases hk0 : k = 0
  · subst hk0
    refine jj_if_ne F (tgt := 1244) dL_law_1229 (by decide) (fun h9 => absurd rfl h9) (fun _ => ?_)
    obtain ⟨v, hv, hPv⟩ := h0 rfl
    refine jj_aload_n F dL_law_1232 rfl ?_
    refine jj_iconst F (v := nI 0) dL_law_1233 (by decide) ?_
    refine jj_lald F kd_504 rfl (by omega) dL_law_1234 ?_
    refine jj_topl (show M2.2 504 0 = r2.toInt64 by rw [e504, hv, hu r2 v (hP2 rfl) hPv]) ?_
    refine jj_iload F dL_law_1235 rfl ?_
    refine jj_i2l F dL_law_1237 ?_
    refine jj_lcmp F dL_law_1238 ?_
    refine jj_topi (lgc _) ?_
    refine jj_if_eq F (tgt := 1244) dL_law_1239 (by decide) (fun _ => ?_) (fun h9 => absurd rfl h9)
    refine jj_goto F (tgt := 1606) dL_law_1244 (by decide) ?_
    refine jj_less (L2 := Lw (zE Z) b i) (less9 _ _ _ _ _ _ _ _ _) ?_
    exact kk M2 hI2
  · refine jj_if_ne F (tgt := 1244) dL_law_1229 (by decide) (fun _ => ?_) (fun h9 => absurd h9 (nI_ne0 (by omega) (by omega)))
    refine jj_goto F (tgt := 1606) dL_law_1244 (by decide) ?_
    refine jj_less (L2 := Lw (zE Z) b i) (less9 _ _ _ _ _ _ _ _ _) ?_
    exact kk M2 hI2
set_option maxRecDepth 100000 in
set_option maxHeartbeats 1000000 in
theorem law_top {Z : Zt} {b N : Nat} {xs : Nat → Int32} (F : ZF Z code (cxL :: gl) RL room_1) (X : WX Z) (S : LX Z b N xs) (hnl : zn Z = 9) (hst : (zl Z).stackTraces = false) (hN : N ≤ 2560) {κ : Nat × Nat} {M : Mm} {i W : Nat} (hi : i + 5 ≤ N) (hI : INV M W) (hWW : W < 1000) (hκ : κ.1 + 1 ≤ 601024 ∧ κ.2 + 6 ≤ 7293034) (kk : ∀ M2, INV M2 (W + 1) → JJ Z (κ.1 + 1, κ.2 + 6) M2 1606 (Lw (zE Z) b i) []) : JJ Z κ M 1247 (Lw (zE Z) b i) [] := by
  obtain ⟨k, P, Wp, hk4, hu, hw, hrest⟩ := p_top (E := zE Z) hst hI hWW (xs (i + 1))
  refine jj_aload_n F dL_law_1247 rfl ?_
  refine jj_aload_n F dL_law_1248 rfl ?_
  refine jj_iload F dL_law_1249 rfl ?_
  refine jj_iconst F (v := nI 1) dL_law_1251 (by decide) ?_
  refine jj_iadd F dL_law_1252 ?_
  refine jj_topi (nI_add i 1) ?_
  refine jj_sld F S rfl (by omega) hN dL_law_1253 ?_
  refine jj_aload_n F dL_law_1254 rfl ?_
  refine jj_callW (na := 3) F X hw (gl_S mk_L_156 vw_L_top) rfl rfl rfl (by decide +kernel) ⟨Nat.le_of_ble_eq_true rfl, Nat.le_of_ble_eq_true rfl⟩ rfl rfl (Nat.le_of_ble_eq_true rfl) hκ dL_law_1255 (fun r1 M1 hp1 => ?_)
  obtain ⟨e1, h0, Mp, hmp, hfin⟩ := hrest r1 M1 hp1
  subst e1
  refine jj_istore F dL_law_1258 (by rw [hnl]; decide) ?_
  dsimp only [lq_st, lq_clr, lq_no]
  refine jj_aload_n F dL_law_1260 rfl ?_
  refine jj_aload_n F dL_law_1261 rfl ?_
  refine jj_iload F dL_law_1262 rfl ?_
  refine jj_iconst F (v := nI 1) dL_law_1264 (by decide) ?_
  refine jj_iadd F dL_law_1265 ?_
  refine jj_topi (nI_add i 1) ?_
  refine jj_sld F S rfl (by omega) hN dL_law_1266 ?_
  refine jj_callVi (na := 1) F hmp (gl_V mk_L_158 vw_X9_top) rfl rfl rfl (by decide +kernel) ⟨Nat.le_of_ble_eq_true rfl, Nat.le_of_ble_eq_true rfl⟩ kd_M rfl rfl rfl (Nat.le_of_ble_eq_true rfl) ⟨hκ.1, hκ.2⟩ dL_law_1267 (fun r2 M2 hp2 => ?_)
  obtain ⟨hI2, e504, e478, hP2⟩ := hfin r2 M2 hp2
  refine jj_istore F dL_law_1270 (by rw [hnl]; decide) ?_
  dsimp only [lq_st, lq_clr, lq_no]
  refine jj_aload_n F dL_law_1272 rfl ?_
  refine jj_callVi (na := 0) F c_X9_thrown (gl_V mk_L_97 vw_X9_thrown) rfl rfl rfl (by decide +kernel) ⟨Nat.le_of_ble_eq_true rfl, Nat.le_of_ble_eq_true rfl⟩ kd_M rfl rfl rfl (Nat.le_of_ble_eq_true rfl) ⟨hκ.1, hκ.2⟩ dL_law_1273 (fun r3 M3 hp3 => ?_)
  obtain ⟨rfl, rfl⟩ := symm2 hp3
  refine jj_topi e478 ?_
  refine jj_iload F dL_law_1276 rfl ?_
  refine jj_icmp_eq F (tgt := 1283) dL_law_1278 (by decide) (fun _ => ?_) (fun h9 => absurd rfl h9)
  refine jj_iload F dL_law_1283 rfl ?_
  by_cases hk0 : k = 0
  · subst hk0
    refine jj_if_ne F (tgt := 1300) dL_law_1285 (by decide) (fun h9 => absurd rfl h9) (fun _ => ?_)
    obtain ⟨v, hv, hPv⟩ := h0 rfl
    refine jj_aload_n F dL_law_1288 rfl ?_
    refine jj_iconst F (v := nI 0) dL_law_1289 (by decide) ?_
    refine jj_lald F kd_504 rfl (by omega) dL_law_1290 ?_
    refine jj_topl (show M2.2 504 0 = r2.toInt64 by rw [e504, hv, hu r2 v (hP2 rfl) hPv]) ?_
    refine jj_iload F dL_law_1291 rfl ?_
    refine jj_i2l F dL_law_1293 ?_
    refine jj_lcmp F dL_law_1294 ?_
    refine jj_topi (lgc _) ?_
    refine jj_if_eq F (tgt := 1300) dL_law_1295 (by decide) (fun _ => ?_) (fun h9 => absurd rfl h9)
    refine jj_goto F (tgt := 1606) dL_law_1300 (by decide) ?_
    refine jj_less (L2 := Lw (zE Z) b i) (less9 _ _ _ _ _ _ _ _ _) ?_
    exact kk M2 hI2
  · refine jj_if_ne F (tgt := 1300) dL_law_1285 (by decide) (fun _ => ?_) (fun h9 => absurd h9 (nI_ne0 (by omega) (by omega)))
    refine jj_goto F (tgt := 1606) dL_law_1300 (by decide) ?_
    refine jj_less (L2 := Lw (zE Z) b i) (less9 _ _ _ _ _ _ _ _ _) ?_
    exact kk M2 hI2
set_option maxRecDepth 100000 in
set_option maxHeartbeats 1000000 in
theorem law_count {Z : Zt} {b N : Nat} {xs : Nat → Int32} (F : ZF Z code (cxL :: gl) RL room_1) (X : WX Z) (S : LX Z b N xs) (hnl : zn Z = 9) (hst : (zl Z).stackTraces = false) (hN : N ≤ 2560) {κ : Nat × Nat} {M : Mm} {i W : Nat} (hi : i + 5 ≤ N) (hI : INV M W) (hWW : W < 1000) (hκ : κ.1 + 1 ≤ 601024 ∧ κ.2 + 6 ≤ 7293034) (kk : ∀ M2, INV M2 (W + 1) → JJ Z (κ.1 + 1, κ.2 + 6) M2 1606 (Lw (zE Z) b i) []) : JJ Z κ M 1303 (Lw (zE Z) b i) [] := by
  obtain ⟨k, P, Wp, hk4, hu, hw, hrest⟩ := p_count (E := zE Z) hst hI hWW (xs (i + 1))
  refine jj_aload_n F dL_law_1303 rfl ?_
  refine jj_aload_n F dL_law_1304 rfl ?_
  refine jj_iload F dL_law_1305 rfl ?_
  refine jj_iconst F (v := nI 1) dL_law_1307 (by decide) ?_
  refine jj_iadd F dL_law_1308 ?_
  refine jj_topi (nI_add i 1) ?_
  refine jj_sld F S rfl (by omega) hN dL_law_1309 ?_
  refine jj_aload_n F dL_law_1310 rfl ?_
  refine jj_callW (na := 3) F X hw (gl_S mk_L_159 vw_L_count) rfl rfl rfl (by decide +kernel) ⟨Nat.le_of_ble_eq_true rfl, Nat.le_of_ble_eq_true rfl⟩ rfl rfl (Nat.le_of_ble_eq_true rfl) hκ dL_law_1311 (fun r1 M1 hp1 => ?_)
  obtain ⟨e1, h0, Mp, hmp, hfin⟩ := hrest r1 M1 hp1
  subst e1
  refine jj_istore F dL_law_1314 (by rw [hnl]; decide) ?_
  dsimp only [lq_st, lq_clr, lq_no]
  refine jj_aload_n F dL_law_1316 rfl ?_
  refine jj_aload_n F dL_law_1317 rfl ?_
  refine jj_iload F dL_law_1318 rfl ?_
  refine jj_iconst F (v := nI 1) dL_law_1320 (by decide) ?_
  refine jj_iadd F dL_law_1321 ?_
  refine jj_topi (nI_add i 1) ?_
  refine jj_sld F S rfl (by omega) hN dL_law_1322 ?_
  refine jj_callVi (na := 1) F hmp (gl_V mk_L_161 vw_X9_count) rfl rfl rfl (by decide +kernel) ⟨Nat.le_of_ble_eq_true rfl, Nat.le_of_ble_eq_true rfl⟩ kd_M rfl rfl rfl (Nat.le_of_ble_eq_true rfl) ⟨hκ.1, hκ.2⟩ dL_law_1323 (fun r2 M2 hp2 => ?_)
  obtain ⟨hI2, e504, e478, hP2⟩ := hfin r2 M2 hp2
  refine jj_istore F dL_law_1326 (by rw [hnl]; decide) ?_
  dsimp only [lq_st, lq_clr, lq_no]
  refine jj_aload_n F dL_law_1328 rfl ?_
  refine jj_callVi (na := 0) F c_X9_thrown (gl_V mk_L_97 vw_X9_thrown) rfl rfl rfl (by decide +kernel) ⟨Nat.le_of_ble_eq_true rfl, Nat.le_of_ble_eq_true rfl⟩ kd_M rfl rfl rfl (Nat.le_of_ble_eq_true rfl) ⟨hκ.1, hκ.2⟩ dL_law_1329 (fun r3 M3 hp3 => ?_)
  obtain ⟨rfl, rfl⟩ := symm2 hp3
  refine jj_topi e478 ?_
  refine jj_iload F dL_law_1332 rfl ?_
  refine jj_icmp_eq F (tgt := 1339) dL_law_1334 (by decide) (fun _ => ?_) (fun h9 => absurd rfl h9)
  refine jj_iload F dL_law_1339 rfl ?_
  by_cases hk0 : k = 0
  · subst hk0
    refine jj_if_ne F (tgt := 1356) dL_law_1341 (by decide) (fun h9 => absurd rfl h9) (fun _ => ?_)
    obtain ⟨v, hv, hPv⟩ := h0 rfl
    refine jj_aload_n F dL_law_1344 rfl ?_
    refine jj_iconst F (v := nI 0) dL_law_1345 (by decide) ?_
    refine jj_lald F kd_504 rfl (by omega) dL_law_1346 ?_
    refine jj_topl (show M2.2 504 0 = r2.toInt64 by rw [e504, hv, hu r2 v (hP2 rfl) hPv]) ?_
    refine jj_iload F dL_law_1347 rfl ?_
    refine jj_i2l F dL_law_1349 ?_
    refine jj_lcmp F dL_law_1350 ?_
    refine jj_topi (lgc _) ?_
    refine jj_if_eq F (tgt := 1356) dL_law_1351 (by decide) (fun _ => ?_) (fun h9 => absurd rfl h9)
    refine jj_goto F (tgt := 1606) dL_law_1356 (by decide) ?_
    refine jj_less (L2 := Lw (zE Z) b i) (less9 _ _ _ _ _ _ _ _ _) ?_
    exact kk M2 hI2
  · refine jj_if_ne F (tgt := 1356) dL_law_1341 (by decide) (fun _ => ?_) (fun h9 => absurd h9 (nI_ne0 (by omega) (by omega)))
    refine jj_goto F (tgt := 1606) dL_law_1356 (by decide) ?_
    refine jj_less (L2 := Lw (zE Z) b i) (less9 _ _ _ _ _ _ _ _ _) ?_
    exact kk M2 hI2
set_option maxRecDepth 100000 in
set_option maxHeartbeats 1000000 in
theorem law_operation {Z : Zt} {b N : Nat} {xs : Nat → Int32} (F : ZF Z code (cxL :: gl) RL room_1) (X : WX Z) (S : LX Z b N xs) (hnl : zn Z = 9) (hst : (zl Z).stackTraces = false) (hN : N ≤ 2560) {κ : Nat × Nat} {M : Mm} {i W : Nat} (hi : i + 5 ≤ N) (hI : INV M W) (hWW : W < 1000) (hκ : κ.1 + 1 ≤ 601024 ∧ κ.2 + 6 ≤ 7293034) (kk : ∀ M2, INV M2 (W + 1) → JJ Z (κ.1 + 1, κ.2 + 6) M2 1606 (Lw (zE Z) b i) []) : JJ Z κ M 1359 (Lw (zE Z) b i) [] := by
  obtain ⟨k, P, Wp, hk4, hu, hw, hrest⟩ := p_operation (E := zE Z) hst hI hWW (xs (i + 1)) (xs (i + 2))
  refine jj_aload_n F dL_law_1359 rfl ?_
  refine jj_aload_n F dL_law_1360 rfl ?_
  refine jj_iload F dL_law_1361 rfl ?_
  refine jj_iconst F (v := nI 1) dL_law_1363 (by decide) ?_
  refine jj_iadd F dL_law_1364 ?_
  refine jj_topi (nI_add i 1) ?_
  refine jj_sld F S rfl (by omega) hN dL_law_1365 ?_
  refine jj_aload_n F dL_law_1366 rfl ?_
  refine jj_iload F dL_law_1367 rfl ?_
  refine jj_iconst F (v := nI 2) dL_law_1369 (by decide) ?_
  refine jj_iadd F dL_law_1370 ?_
  refine jj_topi (nI_add i 2) ?_
  refine jj_sld F S rfl (by omega) hN dL_law_1371 ?_
  refine jj_aload_n F dL_law_1372 rfl ?_
  refine jj_callW (na := 4) F X hw (gl_S mk_L_162 vw_L_operation) rfl rfl rfl (by decide +kernel) ⟨Nat.le_of_ble_eq_true rfl, Nat.le_of_ble_eq_true rfl⟩ rfl rfl (Nat.le_of_ble_eq_true rfl) hκ dL_law_1373 (fun r1 M1 hp1 => ?_)
  obtain ⟨e1, h0, Mp, hmp, hfin⟩ := hrest r1 M1 hp1
  subst e1
  refine jj_istore F dL_law_1376 (by rw [hnl]; decide) ?_
  dsimp only [lq_st, lq_clr, lq_no]
  refine jj_aload_n F dL_law_1378 rfl ?_
  refine jj_aload_n F dL_law_1379 rfl ?_
  refine jj_iload F dL_law_1380 rfl ?_
  refine jj_iconst F (v := nI 1) dL_law_1382 (by decide) ?_
  refine jj_iadd F dL_law_1383 ?_
  refine jj_topi (nI_add i 1) ?_
  refine jj_sld F S rfl (by omega) hN dL_law_1384 ?_
  refine jj_aload_n F dL_law_1385 rfl ?_
  refine jj_iload F dL_law_1386 rfl ?_
  refine jj_iconst F (v := nI 2) dL_law_1388 (by decide) ?_
  refine jj_iadd F dL_law_1389 ?_
  refine jj_topi (nI_add i 2) ?_
  refine jj_sld F S rfl (by omega) hN dL_law_1390 ?_
  refine jj_callVi (na := 2) F hmp (gl_V mk_L_164 vw_X9_operation) rfl rfl rfl (by decide +kernel) ⟨Nat.le_of_ble_eq_true rfl, Nat.le_of_ble_eq_true rfl⟩ kd_M rfl rfl rfl (Nat.le_of_ble_eq_true rfl) ⟨hκ.1, hκ.2⟩ dL_law_1391 (fun r2 M2 hp2 => ?_)
  obtain ⟨hI2, e504, e478, hP2⟩ := hfin r2 M2 hp2
  refine jj_istore F dL_law_1394 (by rw [hnl]; decide) ?_
  dsimp only [lq_st, lq_clr, lq_no]
  refine jj_aload_n F dL_law_1396 rfl ?_
  refine jj_callVi (na := 0) F c_X9_thrown (gl_V mk_L_97 vw_X9_thrown) rfl rfl rfl (by decide +kernel) ⟨Nat.le_of_ble_eq_true rfl, Nat.le_of_ble_eq_true rfl⟩ kd_M rfl rfl rfl (Nat.le_of_ble_eq_true rfl) ⟨hκ.1, hκ.2⟩ dL_law_1397 (fun r3 M3 hp3 => ?_)
  obtain ⟨rfl, rfl⟩ := symm2 hp3
  refine jj_topi e478 ?_
  refine jj_iload F dL_law_1400 rfl ?_
  refine jj_icmp_eq F (tgt := 1407) dL_law_1402 (by decide) (fun _ => ?_) (fun h9 => absurd rfl h9)
  refine jj_iload F dL_law_1407 rfl ?_
  by_cases hk0 : k = 0
  · subst hk0
    refine jj_if_ne F (tgt := 1424) dL_law_1409 (by decide) (fun h9 => absurd rfl h9) (fun _ => ?_)
    obtain ⟨v, hv, hPv⟩ := h0 rfl
    refine jj_aload_n F dL_law_1412 rfl ?_
    refine jj_iconst F (v := nI 0) dL_law_1413 (by decide) ?_
    refine jj_lald F kd_504 rfl (by omega) dL_law_1414 ?_
    refine jj_topl (show M2.2 504 0 = r2.toInt64 by rw [e504, hv, hu r2 v (hP2 rfl) hPv]) ?_
    refine jj_iload F dL_law_1415 rfl ?_
    refine jj_i2l F dL_law_1417 ?_
    refine jj_lcmp F dL_law_1418 ?_
    refine jj_topi (lgc _) ?_
    refine jj_if_eq F (tgt := 1424) dL_law_1419 (by decide) (fun _ => ?_) (fun h9 => absurd rfl h9)
    refine jj_goto F (tgt := 1606) dL_law_1424 (by decide) ?_
    refine jj_less (L2 := Lw (zE Z) b i) (less9 _ _ _ _ _ _ _ _ _) ?_
    exact kk M2 hI2
  · refine jj_if_ne F (tgt := 1424) dL_law_1409 (by decide) (fun _ => ?_) (fun h9 => absurd h9 (nI_ne0 (by omega) (by omega)))
    refine jj_goto F (tgt := 1606) dL_law_1424 (by decide) ?_
    refine jj_less (L2 := Lw (zE Z) b i) (less9 _ _ _ _ _ _ _ _ _) ?_
    exact kk M2 hI2
set_option maxRecDepth 100000 in
set_option maxHeartbeats 1000000 in
theorem law_ifSwitched {Z : Zt} {b N : Nat} {xs : Nat → Int32} (F : ZF Z code (cxL :: gl) RL room_1) (X : WX Z) (S : LX Z b N xs) (hnl : zn Z = 9) (hst : (zl Z).stackTraces = false) (hN : N ≤ 2560) {κ : Nat × Nat} {M : Mm} {i W : Nat} (hi : i + 5 ≤ N) (hI : INV M W) (hWW : W < 1000) (hκ : κ.1 + 1 ≤ 601024 ∧ κ.2 + 6 ≤ 7293034) (kk : ∀ M2, INV M2 (W + 1) → JJ Z (κ.1 + 1, κ.2 + 6) M2 1606 (Lw (zE Z) b i) []) : JJ Z κ M 1427 (Lw (zE Z) b i) [] := by
  obtain ⟨k, P, Wp, hk4, hu, hw, hrest⟩ := p_ifSwitched (E := zE Z) hst hI hWW (xs (i + 1))
  refine jj_aload_n F dL_law_1427 rfl ?_
  refine jj_aload_n F dL_law_1428 rfl ?_
  refine jj_iload F dL_law_1429 rfl ?_
  refine jj_iconst F (v := nI 1) dL_law_1431 (by decide) ?_
  refine jj_iadd F dL_law_1432 ?_
  refine jj_topi (nI_add i 1) ?_
  refine jj_sld F S rfl (by omega) hN dL_law_1433 ?_
  refine jj_aload_n F dL_law_1434 rfl ?_
  refine jj_callW (na := 3) F X hw (gl_S mk_L_165 vw_L_ifSwitched) rfl rfl rfl (by decide +kernel) ⟨Nat.le_of_ble_eq_true rfl, Nat.le_of_ble_eq_true rfl⟩ rfl rfl (Nat.le_of_ble_eq_true rfl) hκ dL_law_1435 (fun r1 M1 hp1 => ?_)
  obtain ⟨e1, h0, Mp, hmp, hfin⟩ := hrest r1 M1 hp1
  subst e1
  refine jj_istore F dL_law_1438 (by rw [hnl]; decide) ?_
  dsimp only [lq_st, lq_clr, lq_no]
  refine jj_aload_n F dL_law_1440 rfl ?_
  refine jj_aload_n F dL_law_1441 rfl ?_
  refine jj_iload F dL_law_1442 rfl ?_
  refine jj_iconst F (v := nI 1) dL_law_1444 (by decide) ?_
  refine jj_iadd F dL_law_1445 ?_
  refine jj_topi (nI_add i 1) ?_
  refine jj_sld F S rfl (by omega) hN dL_law_1446 ?_
  refine jj_callVi (na := 1) F hmp (gl_V mk_L_167 vw_X9_ifSwitched) rfl rfl rfl (by decide +kernel) ⟨Nat.le_of_ble_eq_true rfl, Nat.le_of_ble_eq_true rfl⟩ kd_M rfl rfl rfl (Nat.le_of_ble_eq_true rfl) ⟨hκ.1, hκ.2⟩ dL_law_1447 (fun r2 M2 hp2 => ?_)
  obtain ⟨hI2, e504, e478, hP2⟩ := hfin r2 M2 hp2
  refine jj_istore F dL_law_1450 (by rw [hnl]; decide) ?_
  dsimp only [lq_st, lq_clr, lq_no]
  refine jj_aload_n F dL_law_1452 rfl ?_
  refine jj_callVi (na := 0) F c_X9_thrown (gl_V mk_L_97 vw_X9_thrown) rfl rfl rfl (by decide +kernel) ⟨Nat.le_of_ble_eq_true rfl, Nat.le_of_ble_eq_true rfl⟩ kd_M rfl rfl rfl (Nat.le_of_ble_eq_true rfl) ⟨hκ.1, hκ.2⟩ dL_law_1453 (fun r3 M3 hp3 => ?_)
  obtain ⟨rfl, rfl⟩ := symm2 hp3
  refine jj_topi e478 ?_
  refine jj_iload F dL_law_1456 rfl ?_
  refine jj_icmp_eq F (tgt := 1463) dL_law_1458 (by decide) (fun _ => ?_) (fun h9 => absurd rfl h9)
  refine jj_iload F dL_law_1463 rfl ?_
  by_cases hk0 : k = 0
  · subst hk0
    refine jj_if_ne F (tgt := 1480) dL_law_1465 (by decide) (fun h9 => absurd rfl h9) (fun _ => ?_)
    obtain ⟨v, hv, hPv⟩ := h0 rfl
    refine jj_aload_n F dL_law_1468 rfl ?_
    refine jj_iconst F (v := nI 0) dL_law_1469 (by decide) ?_
    refine jj_lald F kd_504 rfl (by omega) dL_law_1470 ?_
    refine jj_topl (show M2.2 504 0 = r2.toInt64 by rw [e504, hv, hu r2 v (hP2 rfl) hPv]) ?_
    refine jj_iload F dL_law_1471 rfl ?_
    refine jj_i2l F dL_law_1473 ?_
    refine jj_lcmp F dL_law_1474 ?_
    refine jj_topi (lgc _) ?_
    refine jj_if_eq F (tgt := 1480) dL_law_1475 (by decide) (fun _ => ?_) (fun h9 => absurd rfl h9)
    refine jj_goto F (tgt := 1606) dL_law_1480 (by decide) ?_
    refine jj_less (L2 := Lw (zE Z) b i) (less9 _ _ _ _ _ _ _ _ _) ?_
    exact kk M2 hI2
  · refine jj_if_ne F (tgt := 1480) dL_law_1465 (by decide) (fun _ => ?_) (fun h9 => absurd h9 (nI_ne0 (by omega) (by omega)))
    refine jj_goto F (tgt := 1606) dL_law_1480 (by decide) ?_
    refine jj_less (L2 := Lw (zE Z) b i) (less9 _ _ _ _ _ _ _ _ _) ?_
    exact kk M2 hI2
set_option maxRecDepth 100000 in
set_option maxHeartbeats 1000000 in
theorem law_user {Z : Zt} {b N : Nat} {xs : Nat → Int32} (F : ZF Z code (cxL :: gl) RL room_1) (X : WX Z) (S : LX Z b N xs) (hnl : zn Z = 9) (hst : (zl Z).stackTraces = false) (hN : N ≤ 2560) {κ : Nat × Nat} {M : Mm} {i W : Nat} (hi : i + 5 ≤ N) (hI : INV M W) (hWW : W < 1000) (hκ : κ.1 + 1 ≤ 601024 ∧ κ.2 + 6 ≤ 7293034) (kk : ∀ M2, INV M2 (W + 1) → JJ Z (κ.1 + 1, κ.2 + 6) M2 1606 (Lw (zE Z) b i) []) : JJ Z κ M 1483 (Lw (zE Z) b i) [] := by
  obtain ⟨k, P, Wp, hk4, hu, hw, hrest⟩ := p_user (E := zE Z) hst hI hWW (xs (i + 1)) (xs (i + 2))
  refine jj_aload_n F dL_law_1483 rfl ?_
  refine jj_aload_n F dL_law_1484 rfl ?_
  refine jj_iload F dL_law_1485 rfl ?_
  refine jj_iconst F (v := nI 1) dL_law_1487 (by decide) ?_
  refine jj_iadd F dL_law_1488 ?_
  refine jj_topi (nI_add i 1) ?_
  refine jj_sld F S rfl (by omega) hN dL_law_1489 ?_
  refine jj_aload_n F dL_law_1490 rfl ?_
  refine jj_iload F dL_law_1491 rfl ?_
  refine jj_iconst F (v := nI 2) dL_law_1493 (by decide) ?_
  refine jj_iadd F dL_law_1494 ?_
  refine jj_topi (nI_add i 2) ?_
  refine jj_sld F S rfl (by omega) hN dL_law_1495 ?_
  refine jj_aload_n F dL_law_1496 rfl ?_
  refine jj_callW (na := 4) F X hw (gl_S mk_L_168 vw_L_user) rfl rfl rfl (by decide +kernel) ⟨Nat.le_of_ble_eq_true rfl, Nat.le_of_ble_eq_true rfl⟩ rfl rfl (Nat.le_of_ble_eq_true rfl) hκ dL_law_1497 (fun r1 M1 hp1 => ?_)
  obtain ⟨e1, h0, Mp, hmp, hfin⟩ := hrest r1 M1 hp1
  subst e1
  refine jj_istore F dL_law_1500 (by rw [hnl]; decide) ?_
  dsimp only [lq_st, lq_clr, lq_no]
  refine jj_aload_n F dL_law_1502 rfl ?_
  refine jj_aload_n F dL_law_1503 rfl ?_
  refine jj_iload F dL_law_1504 rfl ?_
  refine jj_iconst F (v := nI 1) dL_law_1506 (by decide) ?_
  refine jj_iadd F dL_law_1507 ?_
  refine jj_topi (nI_add i 1) ?_
  refine jj_sld F S rfl (by omega) hN dL_law_1508 ?_
  refine jj_aload_n F dL_law_1509 rfl ?_
  refine jj_iload F dL_law_1510 rfl ?_
  refine jj_iconst F (v := nI 2) dL_law_1512 (by decide) ?_
  refine jj_iadd F dL_law_1513 ?_
  refine jj_topi (nI_add i 2) ?_
  refine jj_sld F S rfl (by omega) hN dL_law_1514 ?_
  refine jj_callVi (na := 2) F hmp (gl_V mk_L_170 vw_X9_user) rfl rfl rfl (by decide +kernel) ⟨Nat.le_of_ble_eq_true rfl, Nat.le_of_ble_eq_true rfl⟩ kd_M rfl rfl rfl (Nat.le_of_ble_eq_true rfl) ⟨hκ.1, hκ.2⟩ dL_law_1515 (fun r2 M2 hp2 => ?_)
  obtain ⟨hI2, e504, e478, hP2⟩ := hfin r2 M2 hp2
  refine jj_istore F dL_law_1518 (by rw [hnl]; decide) ?_
  dsimp only [lq_st, lq_clr, lq_no]
  refine jj_aload_n F dL_law_1520 rfl ?_
  refine jj_callVi (na := 0) F c_X9_thrown (gl_V mk_L_97 vw_X9_thrown) rfl rfl rfl (by decide +kernel) ⟨Nat.le_of_ble_eq_true rfl, Nat.le_of_ble_eq_true rfl⟩ kd_M rfl rfl rfl (Nat.le_of_ble_eq_true rfl) ⟨hκ.1, hκ.2⟩ dL_law_1521 (fun r3 M3 hp3 => ?_)
  obtain ⟨rfl, rfl⟩ := symm2 hp3
  refine jj_topi e478 ?_
  refine jj_iload F dL_law_1524 rfl ?_
  refine jj_icmp_eq F (tgt := 1531) dL_law_1526 (by decide) (fun _ => ?_) (fun h9 => absurd rfl h9)
  refine jj_iload F dL_law_1531 rfl ?_
  by_cases hk0 : k = 0
  · subst hk0
    refine jj_if_ne F (tgt := 1548) dL_law_1533 (by decide) (fun h9 => absurd rfl h9) (fun _ => ?_)
    obtain ⟨v, hv, hPv⟩ := h0 rfl
    refine jj_aload_n F dL_law_1536 rfl ?_
    refine jj_iconst F (v := nI 0) dL_law_1537 (by decide) ?_
    refine jj_lald F kd_504 rfl (by omega) dL_law_1538 ?_
    refine jj_topl (show M2.2 504 0 = r2.toInt64 by rw [e504, hv, hu r2 v (hP2 rfl) hPv]) ?_
    refine jj_iload F dL_law_1539 rfl ?_
    refine jj_i2l F dL_law_1541 ?_
    refine jj_lcmp F dL_law_1542 ?_
    refine jj_topi (lgc _) ?_
    refine jj_if_eq F (tgt := 1548) dL_law_1543 (by decide) (fun _ => ?_) (fun h9 => absurd rfl h9)
    refine jj_goto F (tgt := 1606) dL_law_1548 (by decide) ?_
    refine jj_less (L2 := Lw (zE Z) b i) (less9 _ _ _ _ _ _ _ _ _) ?_
    exact kk M2 hI2
  · refine jj_if_ne F (tgt := 1548) dL_law_1533 (by decide) (fun _ => ?_) (fun h9 => absurd h9 (nI_ne0 (by omega) (by omega)))
    refine jj_goto F (tgt := 1606) dL_law_1548 (by decide) ?_
    refine jj_less (L2 := Lw (zE Z) b i) (less9 _ _ _ _ _ _ _ _ _) ?_
    exact kk M2 hI2
set_option maxRecDepth 100000 in
set_option maxHeartbeats 1000000 in
theorem law_meanStrength {Z : Zt} {b N : Nat} {xs : Nat → Int32} (F : ZF Z code (cxL :: gl) RL room_1) (X : WX Z) (S : LX Z b N xs) (hnl : zn Z = 9) (hst : (zl Z).stackTraces = false) (hN : N ≤ 2560) {κ : Nat × Nat} {M : Mm} {i W : Nat} (hi : i + 5 ≤ N) (hI : INV M W) (hWW : W < 1000) (hκ : κ.1 + 1 ≤ 601024 ∧ κ.2 + 6 ≤ 7293034) (kk : ∀ M2, INV M2 (W + 1) → JJ Z (κ.1 + 1, κ.2 + 6) M2 1606 (Lw (zE Z) b i) []) : JJ Z κ M 1551 (Lw (zE Z) b i) [] := by
  obtain ⟨a0, hB0, hM0⟩ := hI
  have hB : RelB M (gz a0 M) W := RelB_gz hB0
  have hM : RelM M (gz a0 M) W := hM0
  have hg : a_g (gz a0 M) = M := rfl
  generalize gz a0 M = a at hB hM hg
  refine jj_aload_n F dL_law_1551 rfl ?_
  refine jj_callVd (na := 0) F (c_X8_meanStrength hB) (gl_V mk_L_171 vw_X8_meanStrength) rfl rfl rfl (by decide +kernel) ⟨Nat.le_of_ble_eq_true rfl, Nat.le_of_ble_eq_true rfl⟩ kd_0 rfl rfl rfl (Nat.le_of_ble_eq_true rfl) ⟨by show κ.1 + 0 ≤ 601024; omega, by show κ.2 + 0 ≤ 7293034; omega⟩ dL_law_1552 (fun r1 M1 hp1 => ?_)
  obtain ⟨e1, hB1⟩ := hp1
  subst e1
  have hM1 := RelM_q hM (RelB_gx hB1) hg
  refine jj_dstore F dL_law_1555 (by rw [hnl]; decide) ?_
  dsimp only [lq_st, lq_clr, lq_no]
  refine jj_aload_n F dL_law_1557 rfl ?_
  refine jj_callVd (na := 0) F (c_X9_meanStrength hM1) (gl_V mk_L_175 vw_X9_meanStrength) rfl rfl rfl (by decide +kernel) ⟨Nat.le_of_ble_eq_true rfl, Nat.le_of_ble_eq_true rfl⟩ kd_M rfl rfl rfl (Nat.le_of_ble_eq_true rfl) ⟨by show κ.1 + 0 + 0 ≤ 601024; omega, by show κ.2 + 0 + 0 ≤ 7293034; omega⟩ dL_law_1558 (fun r2 M2 hp2 => ?_)
  obtain ⟨e2, hM2, hpub⟩ := hp2
  subst e2
  have hI2 := INV_q hB1 hM2 hpub
  refine jj_dstore F dL_law_1561 (by rw [hnl]; decide) ?_
  dsimp only [lq_st, lq_clr, lq_no]
  refine jj_dload F dL_law_1563 rfl ?_
  refine jj_dload F dL_law_1565 rfl ?_
  refine jj_dcmp F dL_law_1567 ?_
  rcases dcm_rf (mnA a) with hc | hc
  · rw [hc]
    refine jj_if_eq F (tgt := 1589) dL_law_1568 (by decide) (fun h9 => absurd h9 (by decide)) (fun _ => ?_)
    refine jj_dload F dL_law_1571 rfl ?_
    refine jj_dload F dL_law_1573 rfl ?_
    refine jj_dcmp F dL_law_1575 ?_
    rw [hc]
    refine jj_if_eq F (tgt := 1587) dL_law_1576 (by decide) (fun h9 => absurd h9 (by decide)) (fun _ => ?_)
    refine jj_dload F dL_law_1579 rfl ?_
    refine jj_dload F dL_law_1581 rfl ?_
    refine jj_dcmp F dL_law_1583 ?_
    rw [hc]
    refine jj_if_ne F (tgt := 1589) dL_law_1584 (by decide) (fun _ => ?_) (fun h9 => absurd h9 (by decide))
    refine jj_goto F (tgt := 1606) dL_law_1589 (by decide) ?_
    refine jj_wid (κ2 := (κ.1 + 1, κ.2 + 6)) (Nat.le_succ _) (by show κ.2 + 0 + 0 ≤ κ.2 + 6; omega) ?_
    refine jj_less (L2 := Lw (zE Z) b i) (less9 _ _ _ _ _ _ _ _ _) ?_
    exact kk M2 hI2
  · rw [hc]
    refine jj_if_eq F (tgt := 1589) dL_law_1568 (by decide) (fun _ => ?_) (fun h9 => absurd rfl h9)
    refine jj_goto F (tgt := 1606) dL_law_1589 (by decide) ?_
    refine jj_wid (κ2 := (κ.1 + 1, κ.2 + 6)) (Nat.le_succ _) (by show κ.2 + 0 + 0 ≤ κ.2 + 6; omega) ?_
    refine jj_less (L2 := Lw (zE Z) b i) (less9 _ _ _ _ _ _ _ _ _) ?_
    exact kk M2 hI2
set_option maxRecDepth 100000 in
set_option maxHeartbeats 1000000 in
theorem law_digest {Z : Zt} {b N : Nat} {xs : Nat → Int32} (F : ZF Z code (cxL :: gl) RL room_1) (X : WX Z) (S : LX Z b N xs) (hnl : zn Z = 9) (hst : (zl Z).stackTraces = false) (hN : N ≤ 2560) {κ : Nat × Nat} {M : Mm} {i W : Nat} (hi : i + 5 ≤ N) (hI : INV M W) (hWW : W < 1000) (hκ : κ.1 + 1 ≤ 601024 ∧ κ.2 + 6 ≤ 7293034) (kk : ∀ M2, INV M2 (W + 1) → JJ Z (κ.1 + 1, κ.2 + 6) M2 1606 (Lw (zE Z) b i) []) : JJ Z κ M 1592 (Lw (zE Z) b i) [] := by
  obtain ⟨a0, hB0, hM0⟩ := hI
  have hB : RelB M (gz a0 M) W := RelB_gz hB0
  have hM : RelM M (gz a0 M) W := hM0
  have hg : a_g (gz a0 M) = M := rfl
  generalize gz a0 M = a at hB hM hg
  refine jj_aload_n F dL_law_1592 rfl ?_
  refine jj_callVl (na := 0) F (c_X8_digest hB hWW) (gl_V mk_L_176 vw_X8_digest) rfl rfl rfl (by decide +kernel) ⟨Nat.le_of_ble_eq_true rfl, Nat.le_of_ble_eq_true rfl⟩ kd_0 rfl rfl rfl (Nat.le_of_ble_eq_true rfl) ⟨by show κ.1 + 0 ≤ 601024; omega, by show κ.2 + 0 ≤ 7293034; omega⟩ dL_law_1593 (fun r1 M1 hp1 => ?_)
  obtain ⟨e1, hB1⟩ := hp1
  subst e1
  have hM1 := RelM_q hM (RelB_gx hB1) hg
  refine jj_aload_n F dL_law_1596 rfl ?_
  refine jj_callVl (na := 0) F (c_X9_digest hM1 hWW) (gl_V mk_L_180 vw_X9_digest) rfl rfl rfl (by decide +kernel) ⟨Nat.le_of_ble_eq_true rfl, Nat.le_of_ble_eq_true rfl⟩ kd_M rfl rfl rfl (Nat.le_of_ble_eq_true rfl) ⟨by show κ.1 + 0 + 0 ≤ 601024; omega, by show κ.2 + 0 + 0 ≤ 7293034; omega⟩ dL_law_1597 (fun r2 M2 hp2 => ?_)
  obtain ⟨e2, hM2, hpub⟩ := hp2
  subst e2
  have hI2 := INV_q hB1 hM2 hpub
  refine jj_lcmp F dL_law_1600 ?_
  refine jj_topi (lgc _) ?_
  refine jj_if_eq F (tgt := 1606) dL_law_1601 (by decide) (fun _ => ?_) (fun h9 => absurd rfl h9)
  refine jj_wid (κ2 := (κ.1 + 1, κ.2 + 6)) (Nat.le_succ _) (by show κ.2 + 0 + 0 ≤ κ.2 + 6; omega) ?_
  exact kk M2 hI2
