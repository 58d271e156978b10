/-- the hash goes on over the values of f -/
def mx (h : Int64) (v : Int32) : Int64 := 31 * h + v.toInt64
def fo (f : Nat → Int32) (h : Int64) : Nat → Int64
  | 0 => h
  | i + 1 => mx (fo f h i) (f i)
def fo2 (f : Nat → Nat → Int32) (m : Nat) (h : Int64) : Nat → Int64
  | 0 => h
  | i + 1 => fo (f i) (fo2 f m h i) m
abbrev mcA (a : Ab) (m : Nat) : Nat → Int32 := colA (a_op a) (a_C a) (a_mk a m).2.2.1 (a_mk a m).2.1 (nI (a_mk a m).2.2.2)
def foM (a : Ab) (h : Int64) : Nat → Int64
  | 0 => h
  | m + 1 => if (a_mk a m).1 = true then mx (foM a h m) (nI (dfC (clA a) (mcA a m))) else foM a h m
noncomputable def dg1 (a : Ab) (i : Nat) : Int64 := fo (bpA a) 1933 i
noncomputable def dg2 (a : Ab) (i : Nat) : Int64 := fo (clA a) (dg1 a 10) i
noncomputable def dg3 (a : Ab) (k : Nat) : Int64 := fo2 (opA a) 11 (dg2 a 256) k
noncomputable def dg4 (a : Ab) (u : Nat) : Int64 := fo2 (usA a) 5 (dg3 a (a_n a)) u
noncomputable def dg5 (a : Ab) (m : Nat) : Int64 := foM a (dg4 a 5) m
noncomputable def dg6 (a : Ab) (i : Nat) : Int64 := fo (a_cd a) (mx (dg5 a 6) (nI (a_ln a))) i
theorem dfC_cong {f f2 g g2 : Nat → Int32} (h1 : ∀ c, c < 256 → f c = f2 c) (h2 : ∀ c, c < 256 → g c = g2 c) : dfC f g = dfC f2 g2 := fb_ct_cong (fun c hc => by rw [h1 c hc, h2 c hc])
theorem less5b (a b c d e : Option Value) : ∀ (i : Nat) (v : Value), ([a, b, c, d, none] : List (Option Value))[i]? = some (some v) → ([a, b, c, d, e] : List (Option Value))[i]? = some (some v)
  | 0, _, h => h
  | 1, _, h => h
  | 2, _, h => h
  | 3, _, h => h
  | 4, _, h => by simp at h
  | n + 5, _, h => by simp at h
set_option maxRecDepth 100000 in
set_option maxHeartbeats 1000000 in
theorem c_X8_digest {l : Launch} {E : Ee} {M : Mm} {a : Ab} {W : Nat} (hB : RelB M a W) (hWW : W < 1000) : CtL l E yX8_digest (.code yX8_digest cX8_digest 5 (some .long) :: gl) ({ frames := 6, cells := 0, slots := 0, locals := 136 } : Room) M [.ref (E.2.2 0)] 0 0 (fun r M2 => r = dg6 a (a_ln a) ∧ RelB M2 a W) := by
  refine ctL_of (L0 := [some (.ref (E.2.2 0)), none, none, none, none]) (by decide) rfl (Nat.le_of_ble_eq_true rfl) rfl ?_
  intro Z hl hE hnl F ret
  subst hE
  have in_X2 : ∀ w ∈ u_ws RX2 TX2 3, w ∈ (.code yX8_digest cX8_digest 5 (some .long) :: gl) := fun w h => List.mem_cons_of_mem _ (lay_X2 w h)
  have in_X3 : ∀ w ∈ u_ws RX3 TX3 4, w ∈ (.code yX8_digest cX8_digest 5 (some .long) :: gl) := fun w h => List.mem_cons_of_mem _ (lay_X3 w h)
  have in_X5 : ∀ w ∈ u_ws RX5 TX5 7, w ∈ (.code yX8_digest cX8_digest 5 (some .long) :: gl) := fun w h => List.mem_cons_of_mem _ (lay_X5 w h)
  have in_X7 : ∀ w ∈ u_ws RX7 TX7 4, w ∈ (.code yX8_digest cX8_digest 5 (some .long) :: gl) := fun w h => List.mem_cons_of_mem _ (lay_X7 w h)
  have in_X8 : ∀ w ∈ u_ws RX8 TX8 9, w ∈ (.code yX8_digest cX8_digest 5 (some .long) :: gl) := fun w h => List.mem_cons_of_mem _ (lay_X8 w h)
  have g10 : FG Z 10 8 0 := fg_mk F (C := RX8) (T := TX8) (N := 9) in_X8 rfl (by decide) rfl (List.mem_cons_of_mem _ fk_X8_10)
  have g19 : FG Z 19 8 1 := fg_mk F (C := RX8) (T := TX8) (N := 9) in_X8 rfl (by decide) rfl (List.mem_cons_of_mem _ fk_X8_19)
  have g32 : FG Z 32 8 3 := fg_mk F (C := RX8) (T := TX8) (N := 9) in_X8 rfl (by decide) rfl (List.mem_cons_of_mem _ fk_X8_32)
  have g39 : FG Z 39 8 4 := fg_mk F (C := RX8) (T := TX8) (N := 9) in_X8 rfl (by decide) rfl (List.mem_cons_of_mem _ fk_X8_39)
  have g65 : FG Z 65 2 1 := fg_mk F (C := RX2) (T := TX2) (N := 3) in_X2 rfl (by decide) rfl (List.mem_cons_of_mem _ fk_X8_65)
  have g71 : FG Z 71 3 0 := fg_mk F (C := RX3) (T := TX3) (N := 4) in_X3 rfl (by decide) rfl (List.mem_cons_of_mem _ fk_X8_71)
  have g93 : FG Z 93 5 1 := fg_mk F (C := RX5) (T := TX5) (N := 7) in_X5 rfl (by decide) rfl (List.mem_cons_of_mem _ fk_X8_93)
  have g98 : FG Z 98 5 0 := fg_mk F (C := RX5) (T := TX5) (N := 7) in_X5 rfl (by decide) rfl (List.mem_cons_of_mem _ fk_X8_98)
  have g154 : FG Z 154 7 2 := fg_mk F (C := RX7) (T := TX7) (N := 4) in_X7 rfl (by decide) rfl (List.mem_cons_of_mem _ fk_X8_154)
  have g232 : FG Z 232 3 3 := fg_mk F (C := RX3) (T := TX3) (N := 4) in_X3 rfl (by decide) rfl (List.mem_cons_of_mem _ fk_X8_232)
  have kb := kd_B
  have kl := kd_Log
  have ke := kd_ents
  have ks := kd_sc0 sc204
  have ks1 := kd_sc1 sc204
  have ks2 := kd_sc2 sc204
  have ks3 := kd_sc3 sc204
  have ks4 := kd_sc4 sc204
  have kt := kd_sc0 sc329
  have kt3 := kd_sc3 sc329
  have kp := kd_PT
  have kL := kd_Ls
  have cs8 := cs_scr
  have k58 := kd_458
  have k59 := kd_459
  have kr := kd_Reg
  have km := kd_marks
  have hlen := hB.2.2.2.2.2.1.2.1
  have h60 := hB.1.1
  have kcod := kd_codes
  have l6 : ∀ i, i ≤ a_ln a → ∀ M9 : Mm, RelB M9 a W → JJ Z (0, 0) M9 226 [some (.ref ((zE Z).2.2 0)), some (.long (dg6 a i)), none, some (.int (nI (i))), none] [] := by
    refine jj_loop (a_ln a) ?_ ?_
    · intro M9 hB9
      obtain ⟨t1, t2, t3, -⟩ := id hB9.2.2.2.2.2.1
      refine jj_iload_n F dX8_digest_226 rfl ?_
      refine jj_aload_n F dX8_digest_227 rfl ?_
      refine jj_getr F g10 (by assumption) (by rfl) dX8_digest_228 ?_
      refine jj_geti F g93 (by assumption) (by rfl) dX8_digest_231 ?_
      rw [t1]
      refine jj_icmp_ge F (tgt := 260) dX8_digest_234 (by decide) (fun _ => ?_) (fun h9 => absurd (nI_le (by omega) (by omega)) h9)
      refine jj_lload_n F dX8_digest_260 rfl ?_
      exact ret _ _ _ _ dX8_digest_261 ⟨rfl, hB9⟩
    · intro i hi ih M9 hB9
      obtain ⟨t1, t2, t3, -⟩ := id hB9.2.2.2.2.2.1
      have ti := t3 i hi
      refine jj_iload_n F dX8_digest_226 rfl ?_
      refine jj_aload_n F dX8_digest_227 rfl ?_
      refine jj_getr F g10 (by assumption) (by rfl) dX8_digest_228 ?_
      refine jj_geti F g93 (by assumption) (by rfl) dX8_digest_231 ?_
      rw [t1]
      refine jj_icmp_ge F (tgt := 260) dX8_digest_234 (by decide) (fun h9 => absurd h9 (nI_ge (by omega) (by omega))) (fun _ => ?_)
      refine jj_ldc2 F (v := 31) dX8_digest_237 (F.hts _ (List.mem_cons_of_mem _ (gl_tb (by decide +kernel) rfl))) ?_
      refine jj_lload_n F dX8_digest_240 rfl ?_
      refine jj_lmul F dX8_digest_241 ?_
      refine jj_aload_n F dX8_digest_242 rfl ?_
      refine jj_getr F g10 (by assumption) (by rfl) dX8_digest_243 ?_
      refine jj_getr F g98 (by assumption) (by rfl) dX8_digest_246 ?_
      refine jj_iload_n F dX8_digest_249 rfl ?_
      refine jj_iald F (by assumption) rfl (by omega) dX8_digest_250 ?_
      rw [ti]
      refine jj_i2l F dX8_digest_251 ?_
      refine jj_ladd F dX8_digest_252 ?_
      refine jj_lstore_n F dX8_digest_253 (by rw [hnl]; decide) ?_
      dsimp only [lq_st, lq_clr, lq_no]
      refine jj_iinc F dX8_digest_254 rfl (by first | exact iinc1 _ | rfl) (by rw [hnl]; decide) ?_
      dsimp only [lq_st, lq_clr, lq_no]
      refine jj_goto F (tgt := 226) dX8_digest_257 (by decide) ?_
      exact ih M9 hB9
  have l5 : ∀ i, i ≤ 6 → ∀ M9 : Mm, RelB M9 a W → JJ Z (0, 0) M9 158 [some (.ref ((zE Z).2.2 0)), some (.long (dg5 a i)), none, some (.int (nI (i))), none] [] := by
    refine jj_loop (6) ?_ ?_
    · intro M9 hB9
      refine jj_iload_n F dX8_digest_158 rfl ?_
      refine jj_bipush F (v := nI 6) dX8_digest_159 (by decide) ?_
      refine jj_icmp_ge F (tgt := 209) dX8_digest_161 (by decide) (fun _ => ?_) (fun h9 => absurd (nI_le (by omega) (by omega)) h9)
      refine jj_ldc2 F (v := 31) dX8_digest_209 (F.hts _ (List.mem_cons_of_mem _ (gl_tb (by decide +kernel) rfl))) ?_
      refine jj_lload_n F dX8_digest_212 rfl ?_
      refine jj_lmul F dX8_digest_213 ?_
      refine jj_aload_n F dX8_digest_214 rfl ?_
      refine jj_getr F g10 (by assumption) (by rfl) dX8_digest_215 ?_
      refine jj_geti F g93 (by assumption) (by rfl) dX8_digest_218 ?_
      rw [(hB9.2.2.2.2.2.1).1]
      refine jj_i2l F dX8_digest_221 ?_
      refine jj_ladd F dX8_digest_222 ?_
      refine jj_lstore_n F dX8_digest_223 (by rw [hnl]; decide) ?_
      dsimp only [lq_st, lq_clr, lq_no]
      refine jj_iconst F (v := nI 0) dX8_digest_224 (by decide) ?_
      refine jj_istore_n F dX8_digest_225 (by rw [hnl]; decide) ?_
      dsimp only [lq_st, lq_clr, lq_no]
      refine jj_eqL ?_ (l6 0 (by omega) M9 hB9)
      simp only [dg6, fo, mx]
    · intro i hi ih M9 hB9
      have kmi := kd_mk0 i hi
      have kmc := kd_mk2 i hi
      have hKi := hB9.2.2.2.1 i hi
      have s3 := hB9.2.2.2.2.1.2.2.1
      refine jj_iload_n F dX8_digest_158 rfl ?_
      refine jj_bipush F (v := nI 6) dX8_digest_159 (by decide) ?_
      refine jj_icmp_ge F (tgt := 209) dX8_digest_161 (by decide) (fun h9 => absurd h9 (nI_ge (by omega) (by omega))) (fun _ => ?_)
      refine jj_aload_n F dX8_digest_164 rfl ?_
      refine jj_getr F g32 (by assumption) (by rfl) dX8_digest_165 ?_
      refine jj_iload_n F dX8_digest_168 rfl ?_
      refine jj_aald F (by assumption) rfl (by omega) dX8_digest_169 ?_
      refine jj_geti F g71 (by assumption) (by rfl) dX8_digest_170 ?_
      rw [hKi.1]
      refine jj_if_eq F (tgt := 203) dX8_digest_173 (by decide) (fun h173 => ?_) (fun h173 => ?_)
      · refine jj_iinc F dX8_digest_203 rfl (by first | exact iinc1 _ | rfl) (by rw [hnl]; decide) ?_
        dsimp only [lq_st, lq_clr, lq_no]
        refine jj_goto F (tgt := 158) dX8_digest_206 (by decide) ?_
        first
        | (rw [b2i_0] at h173; refine jj_eqL ?_ (ih M9 hB9); simp only [dg5, foM, h173, Bool.false_eq_true, if_false]; done)
        | (rw [b2i_n0] at h173; have hc := (hKi.2 h173).2.2.2; have e9 : dfC (M9.1 207) (M9.1 (460 + 3 * i + 2)) = dfC (clA a) (mcA a i) := dfC_cong (fun c _ => by rw [s3]) hc; refine jj_eqL ?_ (ih M9 hB9); simp only [dg5, foM, h173, if_true, mx]; rw [← e9]; done)
      · refine jj_ldc2 F (v := 31) dX8_digest_176 (F.hts _ (List.mem_cons_of_mem _ (gl_tb (by decide +kernel) rfl))) ?_
        refine jj_lload_n F dX8_digest_179 rfl ?_
        refine jj_lmul F dX8_digest_180 ?_
        refine jj_aload_n F dX8_digest_181 rfl ?_
        refine jj_getr F g39 (by assumption) (by rfl) dX8_digest_182 ?_
        refine jj_getr F g154 (by assumption) (by rfl) dX8_digest_185 ?_
        refine jj_aload_n F dX8_digest_188 rfl ?_
        refine jj_getr F g32 (by assumption) (by rfl) dX8_digest_189 ?_
        refine jj_iload_n F dX8_digest_192 rfl ?_
        refine jj_aald F (by assumption) rfl (by omega) dX8_digest_193 ?_
        refine jj_getr F g232 (by assumption) (by rfl) dX8_digest_194 ?_
        refine jj_callSi (na := 2) F (c_X8_changedCells (by assumption) (by assumption)) (gl_S mk_X8_233 vw_X8_changedCells) rfl rfl rfl (by decide +kernel) ⟨Nat.le_of_ble_eq_true rfl, Nat.le_of_ble_eq_true rfl⟩ rfl rfl (Nat.le_of_ble_eq_true rfl) ⟨Nat.le_of_ble_eq_true rfl, Nat.le_of_ble_eq_true rfl⟩ dX8_digest_197 (fun r197 M197 hp197 => ?_)
        obtain ⟨rfl, rfl⟩ := symm2 hp197
        refine jj_i2l F dX8_digest_200 ?_
        refine jj_ladd F dX8_digest_201 ?_
        refine jj_lstore_n F dX8_digest_202 (by rw [hnl]; decide) ?_
        dsimp only [lq_st, lq_clr, lq_no]
        refine jj_iinc F dX8_digest_203 rfl (by first | exact iinc1 _ | rfl) (by rw [hnl]; decide) ?_
        dsimp only [lq_st, lq_clr, lq_no]
        refine jj_goto F (tgt := 158) dX8_digest_206 (by decide) ?_
        first
        | (rw [b2i_0] at h173; refine jj_eqL ?_ (ih M9 hB9); simp only [dg5, foM, h173, Bool.false_eq_true, if_false]; done)
        | (rw [b2i_n0] at h173; have hc := (hKi.2 h173).2.2.2; have e9 : dfC (M9.1 207) (M9.1 (460 + 3 * i + 2)) = dfC (clA a) (mcA a i) := dfC_cong (fun c _ => by rw [s3]) hc; refine jj_eqL ?_ (ih M9 hB9); simp only [dg5, foM, h173, if_true, mx]; rw [← e9]; done)
  have l4 : ∀ u, u ≤ 5 → ∀ M9 : Mm, RelB M9 a W → JJ Z (0, 0) M9 115 [some (.ref ((zE Z).2.2 0)), some (.long (dg4 a u)), none, some (.int (nI (u))), none] [] := by
    refine jj_loop 5 ?_ ?_
    · intro M9 hB9
      refine jj_iload_n F dX8_digest_115 rfl ?_
      refine jj_iconst F (v := nI 5) dX8_digest_116 (by decide) ?_
      refine jj_icmp_ge F (tgt := 156) dX8_digest_117 (by decide) (fun _ => ?_) (fun h9 => absurd (nI_le (by omega) (by omega)) h9)
      refine jj_iconst F (v := nI 0) dX8_digest_156 (by decide) ?_
      refine jj_istore_n F dX8_digest_157 (by rw [hnl]; decide) ?_
      dsimp only [lq_st, lq_clr, lq_no]
      exact l5 0 (by omega) M9 hB9
    · intro u hu ihu M9 hB9
      have li : ∀ i, i ≤ 5 → ∀ M9 : Mm, RelB M9 a W → JJ Z (0, 0) M9 123 [some (.ref ((zE Z).2.2 0)), some (.long (fo (usA a u) (dg4 a u) i)), none, some (.int (nI (u))), some (.int (nI i))] [] := by
        refine jj_loop (5) ?_ ?_
        · intro M9 hB9
          refine jj_iload F dX8_digest_123 rfl ?_
          refine jj_iconst F (v := nI 5) dX8_digest_125 (by decide) ?_
          refine jj_icmp_ge F (tgt := 150) dX8_digest_126 (by decide) (fun _ => ?_) (fun h9 => absurd (nI_le (by omega) (by omega)) h9)
          refine jj_iinc F dX8_digest_150 rfl (iinc1 _) (by rw [hnl]; decide) ?_
          dsimp only [lq_st, lq_clr, lq_no]
          refine jj_goto F (tgt := 115) dX8_digest_153 (by decide) ?_
          refine jj_less (L2 := [some (.ref ((zE Z).2.2 0)), some (.long (dg4 a (u + 1))), none, some (.int (nI (u + 1))), none]) (less5b _ _ _ _ _) ?_
          exact ihu M9 hB9
        · intro i hi ih M9 hB9
          refine jj_iload F dX8_digest_123 rfl ?_
          refine jj_iconst F (v := nI 5) dX8_digest_125 (by decide) ?_
          refine jj_icmp_ge F (tgt := 150) dX8_digest_126 (by decide) (fun h9 => absurd h9 (nI_ge (by omega) (by omega))) (fun _ => ?_)
          refine jj_ldc2 F (v := 31) dX8_digest_129 (F.hts _ (List.mem_cons_of_mem _ (gl_tb (by decide +kernel) rfl))) ?_
          refine jj_lload_n F dX8_digest_132 rfl ?_
          refine jj_lmul F dX8_digest_133 ?_
          refine jj_aload_n F dX8_digest_134 rfl ?_
          refine jj_iload_n F dX8_digest_135 rfl ?_
          refine jj_iload F dX8_digest_136 rfl ?_
          refine jj_callVi (na := 2) F (c_X8_userProperty hB9 (by omega) (by omega) hWW) (gl_V mk_X8_266 vw_X8_userProperty) rfl rfl rfl (by decide +kernel) ⟨Nat.le_of_ble_eq_true rfl, Nat.le_of_ble_eq_true rfl⟩ (by assumption) rfl rfl rfl (Nat.le_of_ble_eq_true rfl) ⟨Nat.le_of_ble_eq_true rfl, Nat.le_of_ble_eq_true rfl⟩ dX8_digest_138 (fun r138 M138 hp138 => ?_)
          obtain ⟨rfl, hB9⟩ := hp138
          refine jj_i2l F dX8_digest_141 ?_
          refine jj_ladd F dX8_digest_142 ?_
          refine jj_lstore_n F dX8_digest_143 (by rw [hnl]; decide) ?_
          dsimp only [lq_st, lq_clr, lq_no]
          refine jj_iinc F dX8_digest_144 rfl (by first | exact iinc1 _ | rfl) (by rw [hnl]; decide) ?_
          dsimp only [lq_st, lq_clr, lq_no]
          refine jj_goto F (tgt := 123) dX8_digest_147 (by decide) ?_
          exact ih _ hB9
      refine jj_iload_n F dX8_digest_115 rfl ?_
      refine jj_iconst F (v := nI 5) dX8_digest_116 (by decide) ?_
      refine jj_icmp_ge F (tgt := 156) dX8_digest_117 (by decide) (fun h9 => absurd h9 (nI_ge (by omega) (by omega))) (fun _ => ?_)
      refine jj_iconst F (v := nI 0) dX8_digest_120 (by decide) ?_
      refine jj_istore F dX8_digest_121 (by rw [hnl]; decide) ?_
      dsimp only [lq_st, lq_clr, lq_no]
      exact li 0 (by omega) M9 hB9
  have l3 : ∀ k, k ≤ a_n a → ∀ M9 : Mm, RelB M9 a W → JJ Z (0, 0) M9 65 [some (.ref ((zE Z).2.2 0)), some (.long (dg3 a k)), none, some (.int (nI (k))), none] [] := by
    refine jj_loop (a_n a) ?_ ?_
    · intro M9 hB9
      have hn9 := hB9.1.2.2.2.1
      refine jj_iload_n F dX8_digest_65 rfl ?_
      refine jj_aload_n F dX8_digest_66 rfl ?_
      refine jj_getr F g19 (by assumption) (by rfl) dX8_digest_67 ?_
      refine jj_geti F g65 (by assumption) (by rfl) dX8_digest_70 ?_
      rw [hn9]
      refine jj_icmp_ge F (tgt := 113) dX8_digest_73 (by decide) (fun _ => ?_) (fun h9 => absurd (nI_le (by omega) (by omega)) h9)
      refine jj_iconst F (v := nI 0) dX8_digest_113 (by decide) ?_
      refine jj_istore_n F dX8_digest_114 (by rw [hnl]; decide) ?_
      dsimp only [lq_st, lq_clr, lq_no]
      exact l4 0 (by omega) M9 hB9
    · intro k hk ihk M9 hB9
      have hn9 := hB9.1.2.2.2.1
      have li : ∀ i, i ≤ 11 → ∀ M9 : Mm, RelB M9 a W → JJ Z (0, 0) M9 79 [some (.ref ((zE Z).2.2 0)), some (.long (fo (opA a k) (dg3 a k) i)), none, some (.int (nI (k))), some (.int (nI i))] [] := by
        refine jj_loop (11) ?_ ?_
        · intro M9 hB9
          refine jj_iload F dX8_digest_79 rfl ?_
          refine jj_bipush F (v := nI 11) dX8_digest_81 (by decide) ?_
          refine jj_icmp_ge F (tgt := 107) dX8_digest_83 (by decide) (fun _ => ?_) (fun h9 => absurd (nI_le (by omega) (by omega)) h9)
          refine jj_iinc F dX8_digest_107 rfl (iinc1 _) (by rw [hnl]; decide) ?_
          dsimp only [lq_st, lq_clr, lq_no]
          refine jj_goto F (tgt := 65) dX8_digest_110 (by decide) ?_
          refine jj_less (L2 := [some (.ref ((zE Z).2.2 0)), some (.long (dg3 a (k + 1))), none, some (.int (nI (k + 1))), none]) (less5b _ _ _ _ _) ?_
          exact ihk M9 hB9
        · intro i hi ih M9 hB9
          refine jj_iload F dX8_digest_79 rfl ?_
          refine jj_bipush F (v := nI 11) dX8_digest_81 (by decide) ?_
          refine jj_icmp_ge F (tgt := 107) dX8_digest_83 (by decide) (fun h9 => absurd h9 (nI_ge (by omega) (by omega))) (fun _ => ?_)
          refine jj_ldc2 F (v := 31) dX8_digest_86 (F.hts _ (List.mem_cons_of_mem _ (gl_tb (by decide +kernel) rfl))) ?_
          refine jj_lload_n F dX8_digest_89 rfl ?_
          refine jj_lmul F dX8_digest_90 ?_
          refine jj_aload_n F dX8_digest_91 rfl ?_
          refine jj_iload_n F dX8_digest_92 rfl ?_
          refine jj_iload F dX8_digest_93 rfl ?_
          refine jj_callVi (na := 2) F (c_X8_operationProperty hB9 (by omega) (by omega)) (gl_V mk_X8_261 vw_X8_operationProperty) rfl rfl rfl (by decide +kernel) ⟨Nat.le_of_ble_eq_true rfl, Nat.le_of_ble_eq_true rfl⟩ (by assumption) rfl rfl rfl (Nat.le_of_ble_eq_true rfl) ⟨Nat.le_of_ble_eq_true rfl, Nat.le_of_ble_eq_true rfl⟩ dX8_digest_95 (fun r95 M95 hp95 => ?_)
          obtain ⟨rfl, hB9⟩ := hp95
          refine jj_i2l F dX8_digest_98 ?_
          refine jj_ladd F dX8_digest_99 ?_
          refine jj_lstore_n F dX8_digest_100 (by rw [hnl]; decide) ?_
          dsimp only [lq_st, lq_clr, lq_no]
          refine jj_iinc F dX8_digest_101 rfl (by first | exact iinc1 _ | rfl) (by rw [hnl]; decide) ?_
          dsimp only [lq_st, lq_clr, lq_no]
          refine jj_goto F (tgt := 79) dX8_digest_104 (by decide) ?_
          exact ih _ hB9
      refine jj_iload_n F dX8_digest_65 rfl ?_
      refine jj_aload_n F dX8_digest_66 rfl ?_
      refine jj_getr F g19 (by assumption) (by rfl) dX8_digest_67 ?_
      refine jj_geti F g65 (by assumption) (by rfl) dX8_digest_70 ?_
      rw [hn9]
      refine jj_icmp_ge F (tgt := 113) dX8_digest_73 (by decide) (fun h9 => absurd h9 (nI_ge (by omega) (by omega))) (fun _ => ?_)
      refine jj_iconst F (v := nI 0) dX8_digest_76 (by decide) ?_
      refine jj_istore F dX8_digest_77 (by rw [hnl]; decide) ?_
      dsimp only [lq_st, lq_clr, lq_no]
      exact li 0 (by omega) M9 hB9
  have l2 : ∀ i, i ≤ 256 → ∀ M9 : Mm, RelB M9 a W → JJ Z (0, 0) M9 33 [some (.ref ((zE Z).2.2 0)), some (.long (dg2 a i)), none, some (.int (nI (i))), none] [] := by
    refine jj_loop (256) ?_ ?_
    · intro M9 hB9
      refine jj_iload_n F dX8_digest_33 rfl ?_
      refine jj_sipush F (v := nI 256) dX8_digest_34 (by decide) ?_
      refine jj_icmp_ge F (tgt := 63) dX8_digest_37 (by decide) (fun _ => ?_) (fun h9 => absurd (nI_le (by omega) (by omega)) h9)
      refine jj_iconst F (v := nI 0) dX8_digest_63 (by decide) ?_
      refine jj_istore_n F dX8_digest_64 (by rw [hnl]; decide) ?_
      dsimp only [lq_st, lq_clr, lq_no]
      exact l3 0 (by omega) M9 hB9
    · intro i hi ih M9 hB9
      have s3 := hB9.2.2.2.2.1.2.2.1
      refine jj_iload_n F dX8_digest_33 rfl ?_
      refine jj_sipush F (v := nI 256) dX8_digest_34 (by decide) ?_
      refine jj_icmp_ge F (tgt := 63) dX8_digest_37 (by decide) (fun h9 => absurd h9 (nI_ge (by omega) (by omega))) (fun _ => ?_)
      refine jj_ldc2 F (v := 31) dX8_digest_40 (F.hts _ (List.mem_cons_of_mem _ (gl_tb (by decide +kernel) rfl))) ?_
      refine jj_lload_n F dX8_digest_43 rfl ?_
      refine jj_lmul F dX8_digest_44 ?_
      refine jj_aload_n F dX8_digest_45 rfl ?_
      refine jj_getr F g39 (by assumption) (by rfl) dX8_digest_46 ?_
      refine jj_getr F g154 (by assumption) (by rfl) dX8_digest_49 ?_
      refine jj_iload_n F dX8_digest_52 rfl ?_
      refine jj_iald F (by assumption) rfl (by omega) dX8_digest_53 ?_
      rw [show (M9.1 207) = clA a from s3]
      refine jj_i2l F dX8_digest_54 ?_
      refine jj_ladd F dX8_digest_55 ?_
      refine jj_lstore_n F dX8_digest_56 (by rw [hnl]; decide) ?_
      dsimp only [lq_st, lq_clr, lq_no]
      refine jj_iinc F dX8_digest_57 rfl (by first | exact iinc1 _ | rfl) (by rw [hnl]; decide) ?_
      dsimp only [lq_st, lq_clr, lq_no]
      refine jj_goto F (tgt := 33) dX8_digest_60 (by decide) ?_
      exact ih M9 hB9
  have l1 : ∀ i, i ≤ 10 → ∀ M9 : Mm, RelB M9 a W → JJ Z (0, 0) M9 6 [some (.ref ((zE Z).2.2 0)), some (.long (dg1 a i)), none, some (.int (nI (i))), none] [] := by
    refine jj_loop (10) ?_ ?_
    · intro M9 hB9
      refine jj_iload_n F dX8_digest_6 rfl ?_
      refine jj_bipush F (v := nI 10) dX8_digest_7 (by decide) ?_
      refine jj_icmp_ge F (tgt := 31) dX8_digest_9 (by decide) (fun _ => ?_) (fun h9 => absurd (nI_le (by omega) (by omega)) h9)
      refine jj_iconst F (v := nI 0) dX8_digest_31 (by decide) ?_
      refine jj_istore_n F dX8_digest_32 (by rw [hnl]; decide) ?_
      dsimp only [lq_st, lq_clr, lq_no]
      exact l2 0 (by omega) M9 hB9
    · intro i hi ih M9 hB9
      refine jj_iload_n F dX8_digest_6 rfl ?_
      refine jj_bipush F (v := nI 10) dX8_digest_7 (by decide) ?_
      refine jj_icmp_ge F (tgt := 31) dX8_digest_9 (by decide) (fun h9 => absurd h9 (nI_ge (by omega) (by omega))) (fun _ => ?_)
      refine jj_ldc2 F (v := 31) dX8_digest_12 (F.hts _ (List.mem_cons_of_mem _ (gl_tb (by decide +kernel) rfl))) ?_
      refine jj_lload_n F dX8_digest_15 rfl ?_
      refine jj_lmul F dX8_digest_16 ?_
      refine jj_aload_n F dX8_digest_17 rfl ?_
      refine jj_iload_n F dX8_digest_18 rfl ?_
      refine jj_callVi (na := 1) F (c_X8_boardProperty hB9 (by omega)) (gl_V mk_X8_253 vw_X8_boardProperty) rfl rfl rfl (by decide +kernel) ⟨Nat.le_of_ble_eq_true rfl, Nat.le_of_ble_eq_true rfl⟩ (by assumption) rfl rfl rfl (Nat.le_of_ble_eq_true rfl) ⟨Nat.le_of_ble_eq_true rfl, Nat.le_of_ble_eq_true rfl⟩ dX8_digest_19 (fun r19 M19 hp19 => ?_)
      obtain ⟨rfl, hB9⟩ := hp19
      refine jj_i2l F dX8_digest_22 ?_
      refine jj_ladd F dX8_digest_23 ?_
      refine jj_lstore_n F dX8_digest_24 (by rw [hnl]; decide) ?_
      dsimp only [lq_st, lq_clr, lq_no]
      refine jj_iinc F dX8_digest_25 rfl (by first | exact iinc1 _ | rfl) (by rw [hnl]; decide) ?_
      dsimp only [lq_st, lq_clr, lq_no]
      refine jj_goto F (tgt := 6) dX8_digest_28 (by decide) ?_
      exact ih _ hB9
  refine jj_ldc2 F (v := 1933) dX8_digest_0 (F.hts _ (List.mem_cons_of_mem _ (gl_tb (by decide +kernel) rfl))) ?_
  refine jj_lstore_n F dX8_digest_3 (by rw [hnl]; decide) ?_
  dsimp only [lq_st, lq_clr, lq_no]
  refine jj_iconst F (v := nI 0) dX8_digest_4 (by decide) ?_
  refine jj_istore_n F dX8_digest_5 (by rw [hnl]; decide) ?_
  dsimp only [lq_st, lq_clr, lq_no]
  exact l1 0 (by omega) M hB
