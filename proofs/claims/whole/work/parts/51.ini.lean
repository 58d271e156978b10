/-! the constructors -/
theorem ob_in : Cond.instanceMethod objectInit ∈ gl := gl_tb (by decide +kernel) rfl
theorem ob_co : Cond.code objectInit ⟨#[0xb1]⟩ 1 none ∈ gl := gl_tb (by decide +kernel) rfl
theorem ac_int : Cond.arrayClass .int ∈ gl := gl_tb (by decide +kernel) rfl
theorem ac_boolean : Cond.arrayClass .boolean ∈ gl := gl_tb (by decide +kernel) rfl
theorem ac_long : Cond.arrayClass .long ∈ gl := gl_tb (by decide +kernel) rfl
theorem in_X0 : Cond.instantiable RX0 1 ∈ gl := gl_tb (by decide +kernel) rfl
theorem ii_X0 : Cond.initialized RX0 ∈ gl := gl_tb (by decide +kernel) rfl
theorem im_X0 : Cond.instanceMethod yX0_init ∈ gl := gl_tb (by decide +kernel) rfl
theorem cw_X0 : Cond.code yX0_init cX0_init 1 none ∈ gl := gl_tb (by decide +kernel) rfl
theorem in_X1 : Cond.instantiable RX1 3 ∈ gl := gl_tb (by decide +kernel) rfl
theorem ii_X1 : Cond.initialized RX1 ∈ gl := gl_tb (by decide +kernel) rfl
theorem im_X1 : Cond.instanceMethod yX1_init ∈ gl := gl_tb (by decide +kernel) rfl
theorem cw_X1 : Cond.code yX1_init cX1_init 2 none ∈ gl := gl_tb (by decide +kernel) rfl
theorem in_X2 : Cond.instantiable RX2 3 ∈ gl := gl_tb (by decide +kernel) rfl
theorem ii_X2 : Cond.initialized RX2 ∈ gl := gl_tb (by decide +kernel) rfl
theorem im_X2 : Cond.instanceMethod yX2_init ∈ gl := gl_tb (by decide +kernel) rfl
theorem cw_X2 : Cond.code yX2_init cX2_init 2 none ∈ gl := gl_tb (by decide +kernel) rfl
theorem in_X3 : Cond.instantiable RX3 4 ∈ gl := gl_tb (by decide +kernel) rfl
theorem ii_X3 : Cond.initialized RX3 ∈ gl := gl_tb (by decide +kernel) rfl
theorem im_X3 : Cond.instanceMethod yX3_init ∈ gl := gl_tb (by decide +kernel) rfl
theorem cw_X3 : Cond.code yX3_init cX3_init 1 none ∈ gl := gl_tb (by decide +kernel) rfl
theorem in_X4 : Cond.instantiable RX4 9 ∈ gl := gl_tb (by decide +kernel) rfl
theorem ii_X4 : Cond.initialized RX4 ∈ gl := gl_tb (by decide +kernel) rfl
theorem im_X4 : Cond.instanceMethod yX4_init ∈ gl := gl_tb (by decide +kernel) rfl
theorem cw_X4 : Cond.code yX4_init cX4_init 1 none ∈ gl := gl_tb (by decide +kernel) rfl
theorem in_X5 : Cond.instantiable RX5 7 ∈ gl := gl_tb (by decide +kernel) rfl
theorem ii_X5 : Cond.initialized RX5 ∈ gl := gl_tb (by decide +kernel) rfl
theorem im_X5 : Cond.instanceMethod yX5_init ∈ gl := gl_tb (by decide +kernel) rfl
theorem cw_X5 : Cond.code yX5_init cX5_init 1 none ∈ gl := gl_tb (by decide +kernel) rfl
theorem in_X6 : Cond.instantiable RX6 3 ∈ gl := gl_tb (by decide +kernel) rfl
theorem ii_X6 : Cond.initialized RX6 ∈ gl := gl_tb (by decide +kernel) rfl
theorem im_X6 : Cond.instanceMethod yX6_init ∈ gl := gl_tb (by decide +kernel) rfl
theorem cw_X6 : Cond.code yX6_init cX6_init 1 none ∈ gl := gl_tb (by decide +kernel) rfl
theorem in_X7 : Cond.instantiable RX7 4 ∈ gl := gl_tb (by decide +kernel) rfl
theorem ii_X7 : Cond.initialized RX7 ∈ gl := gl_tb (by decide +kernel) rfl
theorem im_X7 : Cond.instanceMethod yX7_init ∈ gl := gl_tb (by decide +kernel) rfl
theorem cw_X7 : Cond.code yX7_init cX7_init 2 none ∈ gl := gl_tb (by decide +kernel) rfl
theorem in_X8 : Cond.instantiable RX8 9 ∈ gl := gl_tb (by decide +kernel) rfl
theorem ii_X8 : Cond.initialized RX8 ∈ gl := gl_tb (by decide +kernel) rfl
theorem im_X8 : Cond.instanceMethod yX8_init ∈ gl := gl_tb (by decide +kernel) rfl
theorem cw_X8 : Cond.code yX8_init cX8_init 2 none ∈ gl := gl_tb (by decide +kernel) rfl
theorem in_X9 : Cond.instantiable RX9 33 ∈ gl := gl_tb (by decide +kernel) rfl
theorem ii_X9 : Cond.initialized RX9 ∈ gl := gl_tb (by decide +kernel) rfl
theorem im_X9 : Cond.instanceMethod yX9_init ∈ gl := gl_tb (by decide +kernel) rfl
theorem cw_X9 : Cond.code yX9_init cX9_init 1 none ∈ gl := gl_tb (by decide +kernel) rfl
theorem nw_X8_9 : (RX8, 9, yX5_init) ∈ nwA := List.mem_of_getElem? (i := 0) rfl
theorem nw_X2_24 : (RX2, 24, yX4_init) ∈ nwA := List.mem_of_getElem? (i := 1) rfl
theorem nw_X4_39 : (RX4, 39, yX0_init) ∈ nwA := List.mem_of_getElem? (i := 2) rfl
theorem nw_X1_24 : (RX1, 24, yX0_init) ∈ nwA := List.mem_of_getElem? (i := 3) rfl
theorem nw_X7_27 : (RX7, 27, yX0_init) ∈ nwA := List.mem_of_getElem? (i := 4) rfl
theorem nw_X8_48 : (RX8, 48, yX6_init) ∈ nwA := List.mem_of_getElem? (i := 5) rfl
theorem nw_X6_11 : (RX6, 11, yX0_init) ∈ nwA := List.mem_of_getElem? (i := 6) rfl
theorem nw_X8_55 : (RX8, 55, yX0_init) ∈ nwA := List.mem_of_getElem? (i := 7) rfl
theorem nw_X8_64 : (RX8, 64, yX3_init) ∈ nwA := List.mem_of_getElem? (i := 8) rfl
theorem ml_X0_3 : Cond.methodLink RX0 3 objectInit ∈ gl := gl_tb (by decide +kernel) rfl
theorem ml_X1_3 : Cond.methodLink RX1 3 objectInit ∈ gl := gl_tb (by decide +kernel) rfl
theorem cl_X1_9 : Cond.classLink RX1 9 RX0 ∈ gl := gl_tb (by decide +kernel) rfl
theorem ml_X2_3 : Cond.methodLink RX2 3 objectInit ∈ gl := gl_tb (by decide +kernel) rfl
theorem cl_X2_9 : Cond.classLink RX2 9 RX4 ∈ gl := gl_tb (by decide +kernel) rfl
theorem ml_X3_3 : Cond.methodLink RX3 3 objectInit ∈ gl := gl_tb (by decide +kernel) rfl
theorem ml_X4_3 : Cond.methodLink RX4 3 objectInit ∈ gl := gl_tb (by decide +kernel) rfl
theorem cl_X4_37 : Cond.classLink RX4 37 RX0 ∈ gl := gl_tb (by decide +kernel) rfl
theorem ml_X5_3 : Cond.methodLink RX5 3 objectInit ∈ gl := gl_tb (by decide +kernel) rfl
theorem ml_X6_3 : Cond.methodLink RX6 3 objectInit ∈ gl := gl_tb (by decide +kernel) rfl
theorem cl_X6_9 : Cond.classLink RX6 9 RX0 ∈ gl := gl_tb (by decide +kernel) rfl
theorem ml_X7_3 : Cond.methodLink RX7 3 objectInit ∈ gl := gl_tb (by decide +kernel) rfl
theorem cl_X7_9 : Cond.classLink RX7 9 RX0 ∈ gl := gl_tb (by decide +kernel) rfl
theorem ml_X8_1 : Cond.methodLink RX8 1 objectInit ∈ gl := gl_tb (by decide +kernel) rfl
theorem cl_X8_7 : Cond.classLink RX8 7 RX5 ∈ gl := gl_tb (by decide +kernel) rfl
theorem cl_X8_16 : Cond.classLink RX8 16 RX2 ∈ gl := gl_tb (by decide +kernel) rfl
theorem ml_X8_18 : Cond.methodLink RX8 18 yX2_init ∈ gl := gl_tb (by decide +kernel) rfl
theorem cl_X8_23 : Cond.classLink RX8 23 RX1 ∈ gl := gl_tb (by decide +kernel) rfl
theorem ml_X8_25 : Cond.methodLink RX8 25 yX1_init ∈ gl := gl_tb (by decide +kernel) rfl
theorem cl_X8_30 : Cond.classLink RX8 30 RX3 ∈ gl := gl_tb (by decide +kernel) rfl
theorem cl_X8_36 : Cond.classLink RX8 36 RX7 ∈ gl := gl_tb (by decide +kernel) rfl
theorem ml_X8_38 : Cond.methodLink RX8 38 yX7_init ∈ gl := gl_tb (by decide +kernel) rfl
theorem cl_X8_46 : Cond.classLink RX8 46 RX6 ∈ gl := gl_tb (by decide +kernel) rfl
theorem cl_X8_53 : Cond.classLink RX8 53 RX0 ∈ gl := gl_tb (by decide +kernel) rfl
theorem ml_X9_1 : Cond.methodLink RX9 1 objectInit ∈ gl := gl_tb (by decide +kernel) rfl
theorem cl_L_8 : Cond.classLink RL 8 RX8 ∈ gl := gl_tb (by decide +kernel) rfl
theorem ml_L_82 : Cond.methodLink RL 82 yX8_init ∈ gl := gl_tb (by decide +kernel) rfl
theorem cl_L_83 : Cond.classLink RL 83 RX9 ∈ gl := gl_tb (by decide +kernel) rfl
theorem ml_L_85 : Cond.methodLink RL 85 yX9_init ∈ gl := gl_tb (by decide +kernel) rfl
set_option maxRecDepth 100000 in
set_option maxHeartbeats 1000000 in
theorem i_X0 {l : Launch} {E : Ee} (hL : Ln E) {k : Nat} (hk : kd k = .inl (0, [k + 3])) (hr : kd (k + 1) = .inr (0, 16, 0, 0)) (h0 : ∀ y, y < 16 → M0.1 (k + 1) y = 0) {B : Nat → va_E} (hB : ∀ j, k ≤ j → B j = lc E M0 j) : CtB l E yX0_init (.code yX0_init cX0_init 1 none :: gl) ({ frames := 1, cells := 1, slots := 16, locals := 12 } : Room) (k + 1) (uB B (k) (.inr (0, [.null]))) (k) 1 16 (k + 2) B := by
  refine ctB_of (L0 := [some (.ref (E.2.2 (k)))]) hL (by decide) rfl rfl (Nat.le_of_ble_eq_true rfl) rfl ?_
  intro Z hl hE hnl F X hin9 ret
  subst hl hE
  obtain ⟨-, -, -, o0, o3, o4, -⟩ := id X
  have in_X09 : ∀ w ∈ u_ws RX0 TX0 1, w ∈ (Cond.code yX0_init cX0_init 1 none :: gl) := fun w h => List.mem_cons_of_mem _ (lay_X0 w h)
  refine bj_aload_n F dX0_init_0 rfl ?_
  refine bj_obj F (List.mem_cons_of_mem _ ml_X0_3) (List.mem_cons_of_mem _ ob_in) (List.mem_cons_of_mem _ ob_co) (Nat.le_of_ble_eq_true rfl) (Nat.le_of_ble_eq_true rfl) dX0_init_1 ?_
  refine bj_aload_n F dX0_init_4 rfl ?_
  refine bj_bipush F (v := nI 16) dX0_init_5 (by decide) ?_
  refine bj_newI F X (n := k + 1) (N := 16) (by decide) (by decide) (by decide) (by rw [uB_n (show k + 1 ≠ k by omega), hB _ (show k ≤ k + 1 by omega), lc_i _ _ (hr)]; exact ev_i (fun j hj => (h0 j hj).symm)) (List.mem_cons_of_mem _ ac_int) (by first | omega | (dsimp only; done) | (dsimp only; omega)) ⟨by first | omega | (dsimp only; done) | (dsimp only; omega), by first | omega | (dsimp only; done) | (dsimp only; omega)⟩ dX0_init_7 ?_
  refine bj_putF F X hin9 (ci := 0) (j := 0) (k := k) (C := RX0) (T := TX0) (N := 1) (ty0 := tyX0) (ty := tyX0 0) in_X09 tyX0_ok nmX0 rfl (by decide) rfl (List.mem_cons_of_mem _ fk_X0_9) rfl rfl (tyX0_ok 0 (by decide)) (by omega) (by rw [uB_s]) (Nat.le_of_ble_eq_true rfl) rfl rfl dX0_init_9 ?_
  refine bj_eB (C := uB B (k) (.inr (0, [.ref ((zE Z).2.2 (k + 1))]))) (uB_u _ _ _ _) ?_
  refine bj_ev (C := B) (fun j hj => ?_) (ret _ _ dX0_init_12)
  by_cases e9 : j = k
  · subst e9; rw [uB_s, hB _ (Nat.le_refl _), lc_obj _ _ hk]; exact ev_e (by simp [lf])
  rw [uB_n e9]; exact ev_rf _
set_option maxRecDepth 100000 in
set_option maxHeartbeats 1000000 in
theorem i_X4 {l : Launch} {E : Ee} (hL : Ln E) {i : Nat} (hi : i < 60) {B : Nat → va_E} (hB : ∀ j, 7 + 3 * i ≤ j → B j = lc E M0 j) : CtB l E yX4_init (.code yX4_init cX4_init 1 none :: gl) ({ frames := 2, cells := 2, slots := 17, locals := 32 } : Room) (7 + 3 * i + 1) (uB B (7 + 3 * i) (.inr (4, [.int 0, .int 0, .int 0, .int 0, .int 0, .int 0, .int 0, .int 0, .null]))) (7 + 3 * i) 2 17 (7 + 3 * i + 3) B := by
  refine ctB_of (L0 := [some (.ref (E.2.2 (7 + 3 * i)))]) hL (by decide) rfl rfl (Nat.le_of_ble_eq_true rfl) rfl ?_
  intro Z hl hE hnl F X hin9 ret
  subst hl hE
  obtain ⟨-, -, -, o0, o3, o4, -⟩ := id X
  have in_X49 : ∀ w ∈ u_ws RX4 TX4 9, w ∈ (Cond.code yX4_init cX4_init 1 none :: gl) := fun w h => List.mem_cons_of_mem _ (lay_X4 w h)
  have in_X08 : ∀ w ∈ u_ws RX0 TX0 1, w ∈ (Cond.code yX4_init cX4_init 1 none :: gl) := fun w h => List.mem_cons_of_mem _ (lay_X0 w h)
  have p9 : FP Z 9 4 0 .int := fp_mk F (C := RX4) (T := TX4) (N := 9) in_X49 tyX4_ok nmX4 rfl (by decide) rfl (List.mem_cons_of_mem _ fk_X4_9) rfl (by decide +kernel)
  have p15 : FP Z 15 4 1 .int := fp_mk F (C := RX4) (T := TX4) (N := 9) in_X49 tyX4_ok nmX4 rfl (by decide) rfl (List.mem_cons_of_mem _ fk_X4_15) rfl (by decide +kernel)
  have p18 : FP Z 18 4 2 .int := fp_mk F (C := RX4) (T := TX4) (N := 9) in_X49 tyX4_ok nmX4 rfl (by decide) rfl (List.mem_cons_of_mem _ fk_X4_18) rfl (by decide +kernel)
  have p21 : FP Z 21 4 3 .int := fp_mk F (C := RX4) (T := TX4) (N := 9) in_X49 tyX4_ok nmX4 rfl (by decide) rfl (List.mem_cons_of_mem _ fk_X4_21) rfl (by decide +kernel)
  have p24 : FP Z 24 4 4 .int := fp_mk F (C := RX4) (T := TX4) (N := 9) in_X49 tyX4_ok nmX4 rfl (by decide) rfl (List.mem_cons_of_mem _ fk_X4_24) rfl (by decide +kernel)
  have p27 : FP Z 27 4 5 .int := fp_mk F (C := RX4) (T := TX4) (N := 9) in_X49 tyX4_ok nmX4 rfl (by decide) rfl (List.mem_cons_of_mem _ fk_X4_27) rfl (by decide +kernel)
  have p30 : FP Z 30 4 6 .boolean := fp_mk F (C := RX4) (T := TX4) (N := 9) in_X49 tyX4_ok nmX4 rfl (by decide) rfl (List.mem_cons_of_mem _ fk_X4_30) rfl (by decide +kernel)
  have p34 : FP Z 34 4 7 .int := fp_mk F (C := RX4) (T := TX4) (N := 9) in_X49 tyX4_ok nmX4 rfl (by decide) rfl (List.mem_cons_of_mem _ fk_X4_34) rfl (by decide +kernel)
  refine bj_aload_n F dX4_init_0 rfl ?_
  refine bj_obj F (List.mem_cons_of_mem _ ml_X4_3) (List.mem_cons_of_mem _ ob_in) (List.mem_cons_of_mem _ ob_co) (Nat.le_of_ble_eq_true rfl) (Nat.le_of_ble_eq_true rfl) dX4_init_1 ?_
  refine bj_aload_n F dX4_init_4 rfl ?_
  refine bj_iconst F (v := 0) dX4_init_5 (by decide) ?_
  refine bj_put F X (ci := 4) (j := 0) (k := 7 + 3 * i) p9 (by omega) (by rw [uB_s]) (Nat.le_of_ble_eq_true rfl) rfl rfl dX4_init_6 ?_
  refine bj_eB (C := uB B (7 + 3 * i) (.inr (4, [.int 0, .int 0, .int 0, .int 0, .int 0, .int 0, .int 0, .int 0, .null]))) (uB_u _ _ _ _) ?_
  refine bj_aload_n F dX4_init_9 rfl ?_
  refine bj_iconst F (v := 0) dX4_init_10 (by decide) ?_
  refine bj_put F X (ci := 4) (j := 1) (k := 7 + 3 * i) p15 (by omega) (by rw [uB_s]) (Nat.le_of_ble_eq_true rfl) rfl rfl dX4_init_11 ?_
  refine bj_eB (C := uB B (7 + 3 * i) (.inr (4, [.int 0, .int 0, .int 0, .int 0, .int 0, .int 0, .int 0, .int 0, .null]))) (uB_u _ _ _ _) ?_
  refine bj_aload_n F dX4_init_14 rfl ?_
  refine bj_iconst F (v := 0) dX4_init_15 (by decide) ?_
  refine bj_put F X (ci := 4) (j := 2) (k := 7 + 3 * i) p18 (by omega) (by rw [uB_s]) (Nat.le_of_ble_eq_true rfl) rfl rfl dX4_init_16 ?_
  refine bj_eB (C := uB B (7 + 3 * i) (.inr (4, [.int 0, .int 0, .int 0, .int 0, .int 0, .int 0, .int 0, .int 0, .null]))) (uB_u _ _ _ _) ?_
  refine bj_aload_n F dX4_init_19 rfl ?_
  refine bj_iconst F (v := 0) dX4_init_20 (by decide) ?_
  refine bj_put F X (ci := 4) (j := 3) (k := 7 + 3 * i) p21 (by omega) (by rw [uB_s]) (Nat.le_of_ble_eq_true rfl) rfl rfl dX4_init_21 ?_
  refine bj_eB (C := uB B (7 + 3 * i) (.inr (4, [.int 0, .int 0, .int 0, .int 0, .int 0, .int 0, .int 0, .int 0, .null]))) (uB_u _ _ _ _) ?_
  refine bj_aload_n F dX4_init_24 rfl ?_
  refine bj_iconst F (v := 0) dX4_init_25 (by decide) ?_
  refine bj_put F X (ci := 4) (j := 4) (k := 7 + 3 * i) p24 (by omega) (by rw [uB_s]) (Nat.le_of_ble_eq_true rfl) rfl rfl dX4_init_26 ?_
  refine bj_eB (C := uB B (7 + 3 * i) (.inr (4, [.int 0, .int 0, .int 0, .int 0, .int 0, .int 0, .int 0, .int 0, .null]))) (uB_u _ _ _ _) ?_
  refine bj_aload_n F dX4_init_29 rfl ?_
  refine bj_iconst F (v := 0) dX4_init_30 (by decide) ?_
  refine bj_put F X (ci := 4) (j := 5) (k := 7 + 3 * i) p27 (by omega) (by rw [uB_s]) (Nat.le_of_ble_eq_true rfl) rfl rfl dX4_init_31 ?_
  refine bj_eB (C := uB B (7 + 3 * i) (.inr (4, [.int 0, .int 0, .int 0, .int 0, .int 0, .int 0, .int 0, .int 0, .null]))) (uB_u _ _ _ _) ?_
  refine bj_aload_n F dX4_init_34 rfl ?_
  refine bj_iconst F (v := 0) dX4_init_35 (by decide) ?_
  refine bj_put F X (ci := 4) (j := 6) (k := 7 + 3 * i) p30 (by omega) (by rw [uB_s]) (Nat.le_of_ble_eq_true rfl) rfl rfl dX4_init_36 ?_
  refine bj_eB (C := uB B (7 + 3 * i) (.inr (4, [.int 0, .int 0, .int 0, .int 0, .int 0, .int 0, .int 0, .int 0, .null]))) (uB_u _ _ _ _) ?_
  refine bj_aload_n F dX4_init_39 rfl ?_
  refine bj_iconst F (v := 0) dX4_init_40 (by decide) ?_
  refine bj_put F X (ci := 4) (j := 7) (k := 7 + 3 * i) p34 (by omega) (by rw [uB_s]) (Nat.le_of_ble_eq_true rfl) rfl rfl dX4_init_41 ?_
  refine bj_eB (C := uB B (7 + 3 * i) (.inr (4, [.int 0, .int 0, .int 0, .int 0, .int 0, .int 0, .int 0, .int 0, .null]))) (uB_u _ _ _ _) ?_
  refine bj_aload_n F dX4_init_44 rfl ?_
  refine bj_new F X (ci := 0) (N := 1) (fs := [.null]) tyX0 tyX0_ok in_X08 (List.mem_cons_of_mem _ cl_X4_37) (List.mem_cons_of_mem _ in_X0) (List.mem_cons_of_mem _ ii_X0) rfl (by intro j hj; match j, hj with | 0, _ => rfl) (by first | omega | (dsimp only; done) | (dsimp only; omega)) ⟨by first | omega | (dsimp only; done) | (dsimp only; omega), by first | omega | (dsimp only; done) | (dsimp only; omega)⟩ dX4_init_45 ?_
  refine bj_dup F dX4_init_48 rfl ?_
  refine bj_callN F X (i_X0 X.1 (k := 7 + 3 * i + 1) (kd_o1 i hi) (kd_o2 i hi) (fun y hy => by rw [M0z (by omega)]) (fun j hj => by rw [uB_n (show j ≠ 7 + 3 * i by omega), hB _ (show 7 + 3 * i ≤ j by omega)])) (gl_C cw_X0) rfl rfl rfl (List.mem_cons_of_mem _ ii_X0) (nw_X4_39) (List.mem_cons_of_mem _ im_X0) rfl (by decide +kernel) ⟨Nat.le_of_ble_eq_true rfl, Nat.le_of_ble_eq_true rfl⟩ (by omega) (by first | omega | (dsimp only; done) | (dsimp only; omega)) (Nat.le_of_ble_eq_true rfl) ⟨by first | omega | (dsimp only; done) | (dsimp only; omega), by first | omega | (dsimp only; done) | (dsimp only; omega)⟩ dX4_init_49 ?_
  refine bj_putF F X hin9 (ci := 4) (j := 8) (k := 7 + 3 * i) (C := RX4) (T := TX4) (N := 9) (ty0 := tyX4) (ty := tyX4 8) in_X49 tyX4_ok nmX4 rfl (by decide) rfl (List.mem_cons_of_mem _ fk_X4_40) rfl rfl (tyX4_ok 8 (by decide)) (by omega) (by rw [uB_s]) (Nat.le_of_ble_eq_true rfl) rfl rfl dX4_init_52 ?_
  refine bj_eB (C := uB B (7 + 3 * i) (.inr (4, [.int 0, .int 0, .int 0, .int 0, .int 0, .int 0, .int 0, .int 0, .ref ((zE Z).2.2 (7 + 3 * i + 1))]))) (uB_u _ _ _ _) ?_
  refine bj_ev (C := B) (fun j hj => ?_) (ret _ _ dX4_init_55)
  by_cases e9 : j = 7 + 3 * i
  · subst e9; rw [uB_s, hB _ (Nat.le_refl _), lc_obj _ _ (kd_op i hi)]; exact ev_e (by simp [lf, M0z (k := 7 + 3 * i) (by omega)])
  rw [uB_n e9]; exact ev_rf _
theorem va_up_lt {f : Nat → Option Nat} {i : Nat} : (va_up (fun j => if j < i then f j else none) i (f i)) = (fun j => if j < i + 1 then f j else none) := by
  funext j
  by_cases h : j = i
  · subst h
    rw [va_up_self, if_pos (by omega)]
  · rw [va_up_ne _ _ h]
    by_cases h2 : j < i
    · rw [if_pos h2, if_pos (by omega)]
    · rw [if_neg h2, if_neg (by omega)]
theorem rq_0 {E : Ee} {t N : Nat} {f : Nat → Option Nat} : rq E t N (fun _ => none) = rq E t N (fun j => if j < 0 then f j else none) := by
  simp [rq]
set_option maxRecDepth 100000 in
set_option maxHeartbeats 1000000 in
theorem i_X2 {l : Launch} {E : Ee} (hL : Ln E)  {B : Nat → va_E} (hB : ∀ j, 5 ≤ j → B j = lc E M0 j) : CtB l E yX2_init (.code yX2_init cX2_init 2 none :: gl) ({ frames := 3, cells := 181, slots := 1620, locals := 52 } : Room) (5 + 1) (uB B (5) (.inr (2, [.null, .int 0, .int 0]))) (5) 181 1620 (5 + 182) B := by
  refine ctB_of (L0 := [some (.ref (E.2.2 (5))), none]) hL (by decide) rfl rfl (Nat.le_of_ble_eq_true rfl) rfl ?_
  intro Z hl hE hnl F X hin9 ret
  subst hl hE
  obtain ⟨-, -, -, o0, o3, o4, -⟩ := id X
  have in_X29 : ∀ w ∈ u_ws RX2 TX2 3, w ∈ (Cond.code yX2_init cX2_init 2 none :: gl) := fun w h => List.mem_cons_of_mem _ (lay_X2 w h)
  have in_X48 : ∀ w ∈ u_ws RX4 TX4 9, w ∈ (Cond.code yX2_init cX2_init 2 none :: gl) := fun w h => List.mem_cons_of_mem _ (lay_X4 w h)
  have p17 : FP Z 17 2 1 .int := fp_mk F (C := RX2) (T := TX2) (N := 3) in_X29 tyX2_ok nmX2 rfl (by decide) rfl (List.mem_cons_of_mem _ fk_X2_17) rfl (by decide +kernel)
  have p21 : FP Z 21 2 2 .int := fp_mk F (C := RX2) (T := TX2) (N := 3) in_X29 tyX2_ok nmX2 rfl (by decide) rfl (List.mem_cons_of_mem _ fk_X2_21) rfl (by decide +kernel)
  have g11 : FG Z 11 2 0 := fg_mk F (C := RX2) (T := TX2) (N := 3) in_X29 rfl (by decide) rfl (List.mem_cons_of_mem _ fk_X2_11)
  have lp : ∀ i, i ≤ 60 → BJ Z (1 + 3 * i, 60 + 26 * i) (7 + 3 * i) (uB (uB B (5) (.inr (2, [.ref ((zE Z).2.2 (6)), .int 0, .int 0]))) (6) (rq (zE Z) 2 60 (fun j => if j < i then some ((zE Z).2.2 (7 + 3 * j)) else none))) 25 [some (.ref ((zE Z).2.2 (5))), some (.int (nI i))] [] := by
    refine jj_loop 60 ?_ ?_
    · refine bj_iload_n F dX2_init_25 rfl ?_
      refine bj_bipush F (v := nI 60) dX2_init_26 (by decide) ?_
      refine bj_icmp_ge F (tgt := 50) dX2_init_28 (by decide) (fun _ => ?_) (fun h9 => absurd (nI_le (by omega) (by omega)) h9)
      refine bj_ev (C := B) (fun j hj => ?_) (ret _ _ dX2_init_50)
      by_cases e9 : j = 6
      · subst e9; rw [uB_s, hB _ (by omega), lc_r _ _ kd_ents]; exact ev_q (fun j hj => if_pos hj)
      rw [uB_n e9]; clear e9
      by_cases e9 : j = 5
      · subst e9; rw [uB_s, hB _ (Nat.le_refl _), lc_obj _ _ kd_Log]; exact ev_e (by simp [lf, M0z (k := 5) (by omega)])
      rw [uB_n e9]; exact ev_rf _
    · intro i hi ih
      refine bj_iload_n F dX2_init_25 rfl ?_
      refine bj_bipush F (v := nI 60) dX2_init_26 (by decide) ?_
      refine bj_icmp_ge F (tgt := 50) dX2_init_28 (by decide) (fun h9 => absurd h9 (nI_ge (by omega) (by omega))) (fun _ => ?_)
      refine bj_aload_n F dX2_init_31 rfl ?_
      refine bj_get F g11 (k := 5) (by omega) (by rw [uB_n (show 5 ≠ 6 by omega), uB_s]) rfl dX2_init_32 ?_
      refine bj_iload_n F dX2_init_35 rfl ?_
      refine bj_new F X (ci := 4) (N := 9) (fs := [.int 0, .int 0, .int 0, .int 0, .int 0, .int 0, .int 0, .int 0, .null]) tyX4 tyX4_ok in_X48 (List.mem_cons_of_mem _ cl_X2_9) (List.mem_cons_of_mem _ in_X4) (List.mem_cons_of_mem _ ii_X4) rfl (by intro j hj; match j, hj with | 0, _ => rfl | 1, _ => rfl | 2, _ => rfl | 3, _ => rfl | 4, _ => rfl | 5, _ => rfl | 6, _ => rfl | 7, _ => rfl | 8, _ => rfl) (by first | omega | (dsimp only; done) | (dsimp only; omega)) ⟨by first | omega | (dsimp only; done) | (dsimp only; omega), by first | omega | (dsimp only; done) | (dsimp only; omega)⟩ dX2_init_36 ?_
      refine bj_dup F dX2_init_39 rfl ?_
      refine bj_callN F X (i_X4 X.1 hi (fun j hj => by rw [uB_n (show j ≠ 6 by omega), uB_n (show j ≠ 5 by omega), hB _ (show 5 ≤ j by omega)])) (gl_C cw_X4) rfl rfl rfl (List.mem_cons_of_mem _ ii_X4) (nw_X2_24) (List.mem_cons_of_mem _ im_X4) rfl (by decide +kernel) ⟨Nat.le_of_ble_eq_true rfl, Nat.le_of_ble_eq_true rfl⟩ (by omega) (by first | omega | (dsimp only; done) | (dsimp only; omega)) (Nat.le_of_ble_eq_true rfl) ⟨by first | omega | (dsimp only; done) | (dsimp only; omega), by first | omega | (dsimp only; done) | (dsimp only; omega)⟩ dX2_init_40 ?_
      refine bj_aast F X (t := 2) (r := 6) (N := 60) (q := 7 + 3 * i) (i := i) (by omega) (by rw [uB_s]) rfl (by omega) (by rw [uB_n (show 7 + 3 * i ≠ 6 by omega), uB_n (show 7 + 3 * i ≠ 5 by omega), hB _ (show 5 ≤ 7 + 3 * i by omega), lc_obj _ _ (kd_op i hi)]) rfl rfl hi (by decide) dX2_init_43 ?_
      refine bj_eB (C := uB (uB B (5) (.inr (2, [.ref ((zE Z).2.2 (6)), .int 0, .int 0]))) (6) (rq (zE Z) 2 60 (fun j => if j < (i + 1) then some ((zE Z).2.2 (7 + 3 * j)) else none))) (by
          funext j9
          simp only [uB]
          by_cases e9 : j9 = 6
          · rw [if_pos e9]
            simp only [e9, if_true, ]
            try rw [show (va_up (fun j => if j < i then some ((zE Z).2.2 (7 + 3 * j)) else none) i (some ((zE Z).2.2 (7 + 3 * i)))) = (fun j => if j < i + 1 then some ((zE Z).2.2 (7 + 3 * j)) else none) from va_up_lt]
          · simp only [e9, if_false]) ?_
      refine bj_iinc F dX2_init_44 rfl (iinc1 _) (by rw [hnl]; decide) ?_
      refine bj_goto F (tgt := 25) dX2_init_47 (by decide) ?_
      refine bj_wid (κ2 := (1 + 3 * (i + 1), 60 + 26 * (i + 1))) (by first | omega | (dsimp only; done) | (dsimp only; omega)) (by first | omega | (dsimp only; done) | (dsimp only; omega)) ?_
      refine bj_n (n2 := 7 + 3 * (i + 1)) (by omega) ?_
      exact ih
  refine bj_aload_n F dX2_init_0 rfl ?_
  refine bj_obj F (List.mem_cons_of_mem _ ml_X2_3) (List.mem_cons_of_mem _ ob_in) (List.mem_cons_of_mem _ ob_co) (Nat.le_of_ble_eq_true rfl) (Nat.le_of_ble_eq_true rfl) dX2_init_1 ?_
  refine bj_aload_n F dX2_init_4 rfl ?_
  refine bj_bipush F (v := nI 60) dX2_init_5 (by decide) ?_
  refine bj_anew F X (n := 6) (t := 2) (N := 60) o4 rfl (List.mem_cons_of_mem _ cl_X2_9) (by decide) (by decide) (by decide) (by first | omega | (dsimp only; done) | (dsimp only; omega)) ⟨by first | omega | (dsimp only; done) | (dsimp only; omega), by first | omega | (dsimp only; done) | (dsimp only; omega)⟩ dX2_init_7 ?_
  refine bj_eB (C := uB (uB B (5) (.inr (2, [.null, .int 0, .int 0]))) 6 (rq (zE Z) 2 60 (fun j => if j < 0 then some ((zE Z).2.2 (7 + 3 * j)) else none))) (by rw [← rq_0]) ?_
  refine bj_putF F X hin9 (ci := 2) (j := 0) (k := 5) (C := RX2) (T := TX2) (N := 3) (ty0 := tyX2) (ty := tyX2 0) in_X29 tyX2_ok nmX2 rfl (by decide) rfl (List.mem_cons_of_mem _ fk_X2_11) rfl rfl (tyX2_ok 0 (by decide)) (by omega) (by rw [uB_n (show 5 ≠ 6 by omega), uB_s]) (Nat.le_of_ble_eq_true rfl) rfl rfl dX2_init_10 ?_
  refine bj_eB (C := uB (uB B (5) (.inr (2, [.ref ((zE Z).2.2 (6)), .int 0, .int 0]))) (6) (rq (zE Z) 2 60 (fun j => if j < 0 then some ((zE Z).2.2 (7 + 3 * j)) else none))) ((by rw [uB_c _ _ _ (show 6 ≠ 5 by omega), uB_u]; rfl)) ?_
  refine bj_aload_n F dX2_init_13 rfl ?_
  refine bj_iconst F (v := 0) dX2_init_14 (by decide) ?_
  refine bj_put F X (ci := 2) (j := 1) (k := 5) p17 (by omega) (by rw [uB_n (show 5 ≠ 6 by omega), uB_s]) (Nat.le_of_ble_eq_true rfl) rfl rfl dX2_init_15 ?_
  refine bj_eB (C := uB (uB B (5) (.inr (2, [.ref ((zE Z).2.2 (6)), .int 0, .int 0]))) (6) (rq (zE Z) 2 60 (fun j => if j < 0 then some ((zE Z).2.2 (7 + 3 * j)) else none))) ((by rw [uB_c _ _ _ (show 6 ≠ 5 by omega), uB_u]; rfl)) ?_
  refine bj_aload_n F dX2_init_18 rfl ?_
  refine bj_iconst F (v := 0) dX2_init_19 (by decide) ?_
  refine bj_put F X (ci := 2) (j := 2) (k := 5) p21 (by omega) (by rw [uB_n (show 5 ≠ 6 by omega), uB_s]) (Nat.le_of_ble_eq_true rfl) rfl rfl dX2_init_20 ?_
  refine bj_eB (C := uB (uB B (5) (.inr (2, [.ref ((zE Z).2.2 (6)), .int 0, .int 0]))) (6) (rq (zE Z) 2 60 (fun j => if j < 0 then some ((zE Z).2.2 (7 + 3 * j)) else none))) ((by rw [uB_c _ _ _ (show 6 ≠ 5 by omega), uB_u]; rfl)) ?_
  refine bj_iconst F (v := 0) dX2_init_23 (by decide) ?_
  refine bj_istore_n F dX2_init_24 (by rw [hnl]; decide) ?_
  dsimp only [lq_st, lq_clr, lq_no]
  refine bj_wid (κ2 := (1 + 3 * 0, 60 + 26 * 0)) (by decide) (by decide) ?_
  refine bj_n (n2 := 7 + 3 * 0) (by omega) ?_
  exact lp 0 (Nat.zero_le _)
set_option maxRecDepth 100000 in
set_option maxHeartbeats 1000000 in
theorem i_X1 {l : Launch} {E : Ee} (hL : Ln E)  {B : Nat → va_E} (hB : ∀ j, 187 ≤ j → B j = lc E M0 j) : CtB l E yX1_init (.code yX1_init cX1_init 2 none :: gl) ({ frames := 2, cells := 15, slots := 120, locals := 32 } : Room) (187 + 1) (uB B (187) (.inr (1, [.null, .null, .null]))) (187) 15 120 (187 + 16) B := by
  refine ctB_of (L0 := [some (.ref (E.2.2 (187))), none]) hL (by decide) rfl rfl (Nat.le_of_ble_eq_true rfl) rfl ?_
  intro Z hl hE hnl F X hin9 ret
  subst hl hE
  obtain ⟨-, -, -, o0, o3, o4, -⟩ := id X
  have in_X19 : ∀ w ∈ u_ws RX1 TX1 3, w ∈ (Cond.code yX1_init cX1_init 2 none :: gl) := fun w h => List.mem_cons_of_mem _ (lay_X1 w h)
  have in_X08 : ∀ w ∈ u_ws RX0 TX0 1, w ∈ (Cond.code yX1_init cX1_init 2 none :: gl) := fun w h => List.mem_cons_of_mem _ (lay_X0 w h)
  have g11 : FG Z 11 1 0 := fg_mk F (C := RX1) (T := TX1) (N := 3) in_X19 rfl (by decide) rfl (List.mem_cons_of_mem _ fk_X1_11)
  have lp : ∀ i, i ≤ 6 → BJ Z (3 + 2 * i, 18 + 17 * i) (191 + 2 * i) (uB (uB B (187) (.inr (1, [.ref ((zE Z).2.2 (188)), .ref ((zE Z).2.2 (189)), .ref ((zE Z).2.2 (190))]))) (188) (rq (zE Z) 0 6 (fun j => if j < i then some ((zE Z).2.2 (191 + 2 * j)) else none))) 31 [some (.ref ((zE Z).2.2 (187))), some (.int (nI i))] [] := by
    refine jj_loop 6 ?_ ?_
    · refine bj_iload_n F dX1_init_31 rfl ?_
      refine bj_bipush F (v := nI 6) dX1_init_32 (by decide) ?_
      refine bj_icmp_ge F (tgt := 56) dX1_init_34 (by decide) (fun _ => ?_) (fun h9 => absurd (nI_le (by omega) (by omega)) h9)
      refine bj_ev (C := B) (fun j hj => ?_) (ret _ _ dX1_init_56)
      by_cases e9 : j = 188
      · subst e9; rw [uB_s, hB _ (by omega), lc_r _ _ kd_areas]; exact ev_q (fun j hj => if_pos hj)
      rw [uB_n e9]; clear e9
      by_cases e9 : j = 187
      · subst e9; rw [uB_s, hB _ (Nat.le_refl _), lc_obj _ _ kd_Ls]; exact ev_e (by simp [lf])
      rw [uB_n e9]; exact ev_rf _
    · intro i hi ih
      refine bj_iload_n F dX1_init_31 rfl ?_
      refine bj_bipush F (v := nI 6) dX1_init_32 (by decide) ?_
      refine bj_icmp_ge F (tgt := 56) dX1_init_34 (by decide) (fun h9 => absurd h9 (nI_ge (by omega) (by omega))) (fun _ => ?_)
      refine bj_aload_n F dX1_init_37 rfl ?_
      refine bj_get F g11 (k := 187) (by omega) (by rw [uB_n (show 187 ≠ 188 by omega), uB_s]) rfl dX1_init_38 ?_
      refine bj_iload_n F dX1_init_41 rfl ?_
      refine bj_new F X (ci := 0) (N := 1) (fs := [.null]) tyX0 tyX0_ok in_X08 (List.mem_cons_of_mem _ cl_X1_9) (List.mem_cons_of_mem _ in_X0) (List.mem_cons_of_mem _ ii_X0) rfl (by intro j hj; match j, hj with | 0, _ => rfl) (by first | omega | (dsimp only; done) | (dsimp only; omega)) ⟨by first | omega | (dsimp only; done) | (dsimp only; omega), by first | omega | (dsimp only; done) | (dsimp only; omega)⟩ dX1_init_42 ?_
      refine bj_dup F dX1_init_45 rfl ?_
      refine bj_callN F X (i_X0 X.1 (k := 191 + 2 * i) (kd_l1 i hi) (kd_l2 i hi) (fun y hy => by rw [M0q (by omega)]; exact M0r y hy) (fun j hj => by rw [uB_n (show j ≠ 188 by omega), uB_n (show j ≠ 187 by omega), hB _ (show 187 ≤ j by omega)])) (gl_C cw_X0) rfl rfl rfl (List.mem_cons_of_mem _ ii_X0) (nw_X1_24) (List.mem_cons_of_mem _ im_X0) rfl (by decide +kernel) ⟨Nat.le_of_ble_eq_true rfl, Nat.le_of_ble_eq_true rfl⟩ (by omega) (by first | omega | (dsimp only; done) | (dsimp only; omega)) (Nat.le_of_ble_eq_true rfl) ⟨by first | omega | (dsimp only; done) | (dsimp only; omega), by first | omega | (dsimp only; done) | (dsimp only; omega)⟩ dX1_init_46 ?_
      refine bj_aast F X (t := 0) (r := 188) (N := 6) (q := 191 + 2 * i) (i := i) (by omega) (by rw [uB_s]) rfl (by omega) (by rw [uB_n (show 191 + 2 * i ≠ 188 by omega), uB_n (show 191 + 2 * i ≠ 187 by omega), hB _ (show 187 ≤ 191 + 2 * i by omega), lc_obj _ _ (kd_l1 i hi)]) rfl rfl hi (by decide) dX1_init_49 ?_
      refine bj_eB (C := uB (uB B (187) (.inr (1, [.ref ((zE Z).2.2 (188)), .ref ((zE Z).2.2 (189)), .ref ((zE Z).2.2 (190))]))) (188) (rq (zE Z) 0 6 (fun j => if j < (i + 1) then some ((zE Z).2.2 (191 + 2 * j)) else none))) (by
          funext j9
          simp only [uB]
          by_cases e9 : j9 = 188
          · rw [if_pos e9]
            simp only [e9, if_true, ]
            try rw [show (va_up (fun j => if j < i then some ((zE Z).2.2 (191 + 2 * j)) else none) i (some ((zE Z).2.2 (191 + 2 * i)))) = (fun j => if j < i + 1 then some ((zE Z).2.2 (191 + 2 * j)) else none) from va_up_lt]
          · simp only [e9, if_false]) ?_
      refine bj_iinc F dX1_init_50 rfl (iinc1 _) (by rw [hnl]; decide) ?_
      refine bj_goto F (tgt := 31) dX1_init_53 (by decide) ?_
      refine bj_wid (κ2 := (3 + 2 * (i + 1), 18 + 17 * (i + 1))) (by first | omega | (dsimp only; done) | (dsimp only; omega)) (by first | omega | (dsimp only; done) | (dsimp only; omega)) ?_
      refine bj_n (n2 := 191 + 2 * (i + 1)) (by omega) ?_
      exact ih
  refine bj_aload_n F dX1_init_0 rfl ?_
  refine bj_obj F (List.mem_cons_of_mem _ ml_X1_3) (List.mem_cons_of_mem _ ob_in) (List.mem_cons_of_mem _ ob_co) (Nat.le_of_ble_eq_true rfl) (Nat.le_of_ble_eq_true rfl) dX1_init_1 ?_
  refine bj_aload_n F dX1_init_4 rfl ?_
  refine bj_bipush F (v := nI 6) dX1_init_5 (by decide) ?_
  refine bj_anew F X (n := 188) (t := 0) (N := 6) o0 rfl (List.mem_cons_of_mem _ cl_X1_9) (by decide) (by decide) (by decide) (by first | omega | (dsimp only; done) | (dsimp only; omega)) ⟨by first | omega | (dsimp only; done) | (dsimp only; omega), by first | omega | (dsimp only; done) | (dsimp only; omega)⟩ dX1_init_7 ?_
  refine bj_eB (C := uB (uB B (187) (.inr (1, [.null, .null, .null]))) 188 (rq (zE Z) 0 6 (fun j => if j < 0 then some ((zE Z).2.2 (191 + 2 * j)) else none))) (by rw [← rq_0]) ?_
  refine bj_putF F X hin9 (ci := 1) (j := 0) (k := 187) (C := RX1) (T := TX1) (N := 3) (ty0 := tyX1) (ty := tyX1 0) in_X19 tyX1_ok nmX1 rfl (by decide) rfl (List.mem_cons_of_mem _ fk_X1_11) rfl rfl (tyX1_ok 0 (by decide)) (by omega) (by rw [uB_n (show 187 ≠ 188 by omega), uB_s]) (Nat.le_of_ble_eq_true rfl) rfl rfl dX1_init_10 ?_
  refine bj_eB (C := uB (uB B (187) (.inr (1, [.ref ((zE Z).2.2 (188)), .null, .null]))) (188) (rq (zE Z) 0 6 (fun j => if j < 0 then some ((zE Z).2.2 (191 + 2 * j)) else none))) ((by rw [uB_c _ _ _ (show 188 ≠ 187 by omega), uB_u]; rfl)) ?_
  refine bj_aload_n F dX1_init_13 rfl ?_
  refine bj_bipush F (v := nI 6) dX1_init_14 (by decide) ?_
  refine bj_newI F X (n := 189) (N := 6) (by decide) (by decide) (by decide) (by rw [uB_n (show 189 ≠ 188 by omega), uB_n (show 189 ≠ 187 by omega), hB _ (show 187 ≤ 189 by omega), lc_i _ _ (kd_owners)]; exact ev_i (fun j hj => by rw [M0z (by omega)])) (List.mem_cons_of_mem _ ac_int) (by first | omega | (dsimp only; done) | (dsimp only; omega)) ⟨by first | omega | (dsimp only; done) | (dsimp only; omega), by first | omega | (dsimp only; done) | (dsimp only; omega)⟩ dX1_init_16 ?_
  refine bj_putF F X hin9 (ci := 1) (j := 1) (k := 187) (C := RX1) (T := TX1) (N := 3) (ty0 := tyX1) (ty := tyX1 1) in_X19 tyX1_ok nmX1 rfl (by decide) rfl (List.mem_cons_of_mem _ fk_X1_17) rfl rfl (tyX1_ok 1 (by decide)) (by omega) (by rw [uB_n (show 187 ≠ 188 by omega), uB_s]) (Nat.le_of_ble_eq_true rfl) rfl rfl dX1_init_18 ?_
  refine bj_eB (C := uB (uB B (187) (.inr (1, [.ref ((zE Z).2.2 (188)), .ref ((zE Z).2.2 (189)), .null]))) (188) (rq (zE Z) 0 6 (fun j => if j < 0 then some ((zE Z).2.2 (191 + 2 * j)) else none))) ((by rw [uB_c _ _ _ (show 188 ≠ 187 by omega), uB_u]; rfl)) ?_
  refine bj_aload_n F dX1_init_21 rfl ?_
  refine bj_bipush F (v := nI 6) dX1_init_22 (by decide) ?_
  refine bj_newI F X (n := 190) (N := 6) (by decide) (by decide) (by decide) (by rw [uB_n (show 190 ≠ 188 by omega), uB_n (show 190 ≠ 187 by omega), hB _ (show 187 ≤ 190 by omega), lc_i _ _ (kd_ends)]; exact ev_i (fun j hj => by rw [M0z (by omega)])) (List.mem_cons_of_mem _ ac_int) (by first | omega | (dsimp only; done) | (dsimp only; omega)) ⟨by first | omega | (dsimp only; done) | (dsimp only; omega), by first | omega | (dsimp only; done) | (dsimp only; omega)⟩ dX1_init_24 ?_
  refine bj_putF F X hin9 (ci := 1) (j := 2) (k := 187) (C := RX1) (T := TX1) (N := 3) (ty0 := tyX1) (ty := tyX1 2) in_X19 tyX1_ok nmX1 rfl (by decide) rfl (List.mem_cons_of_mem _ fk_X1_21) rfl rfl (tyX1_ok 2 (by decide)) (by omega) (by rw [uB_n (show 187 ≠ 188 by omega), uB_s]) (Nat.le_of_ble_eq_true rfl) rfl rfl dX1_init_26 ?_
  refine bj_eB (C := uB (uB B (187) (.inr (1, [.ref ((zE Z).2.2 (188)), .ref ((zE Z).2.2 (189)), .ref ((zE Z).2.2 (190))]))) (188) (rq (zE Z) 0 6 (fun j => if j < 0 then some ((zE Z).2.2 (191 + 2 * j)) else none))) ((by rw [uB_c _ _ _ (show 188 ≠ 187 by omega), uB_u]; rfl)) ?_
  refine bj_iconst F (v := 0) dX1_init_29 (by decide) ?_
  refine bj_istore_n F dX1_init_30 (by rw [hnl]; decide) ?_
  dsimp only [lq_st, lq_clr, lq_no]
  refine bj_wid (κ2 := (3 + 2 * 0, 18 + 17 * 0)) (by decide) (by decide) ?_
  refine bj_n (n2 := 191 + 2 * 0) (by omega) ?_
  exact lp 0 (Nat.zero_le _)
set_option maxRecDepth 100000 in
set_option maxHeartbeats 1000000 in
theorem i_X7 {l : Launch} {E : Ee} (hL : Ln E) {b : Nat} (hb : isSc b) {B : Nat → va_E} (hB : ∀ j, b ≤ j → B j = lc E M0 j) : CtB l E yX7_init (.code yX7_init cX7_init 2 none :: gl) ({ frames := 2, cells := 124, slots := 1652, locals := 32 } : Room) (b + 1) (uB B (b) (.inr (7, [.null, .null, .null, .null]))) (b) 124 1652 (b + 125) B := by
  refine ctB_of (L0 := [some (.ref (E.2.2 (b))), none]) hL (by decide) rfl rfl (Nat.le_of_ble_eq_true rfl) rfl ?_
  intro Z hl hE hnl F X hin9 ret
  subst hl hE
  obtain ⟨-, -, -, o0, o3, o4, -⟩ := id X
  have in_X79 : ∀ w ∈ u_ws RX7 TX7 4, w ∈ (Cond.code yX7_init cX7_init 2 none :: gl) := fun w h => List.mem_cons_of_mem _ (lay_X7 w h)
  have in_X08 : ∀ w ∈ u_ws RX0 TX0 1, w ∈ (Cond.code yX7_init cX7_init 2 none :: gl) := fun w h => List.mem_cons_of_mem _ (lay_X0 w h)
  have g11 : FG Z 11 7 0 := fg_mk F (C := RX7) (T := TX7) (N := 4) in_X79 rfl (by decide) rfl (List.mem_cons_of_mem _ fk_X7_11)
  have g17 : FG Z 17 7 1 := fg_mk F (C := RX7) (T := TX7) (N := 4) in_X79 rfl (by decide) rfl (List.mem_cons_of_mem _ fk_X7_17)
  have hb9 : b = 204 ∨ b = 329 := hb
  have lt : ∀ i, i ≤ 256 → BJ Z (124, 1652) (b + 125) (uB (uB (uB B (b) (.inr (7, [.ref ((zE Z).2.2 (b + 1)), .ref ((zE Z).2.2 (b + 2)), .ref ((zE Z).2.2 (b + 3)), .ref ((zE Z).2.2 (b + 4))]))) (b + 1) (rq (zE Z) 0 60 (fun j => if j < 60 then some ((zE Z).2.2 (b + 5 + 2 * j)) else none))) (b + 2) ((.inl ((zE Z).2.1.1, 256, .inl (fun j => if j < i then -1 else 0))))) 68 [some (.ref ((zE Z).2.2 (b))), some (.int (nI i))] [] := by
    refine jj_loop 256 ?_ ?_
    · refine bj_iload_n F dX7_init_68 rfl ?_
      refine bj_sipush F (v := nI 256) dX7_init_69 (by decide) ?_
      refine bj_icmp_ge F (tgt := 88) dX7_init_72 (by decide) (fun _ => ?_) (fun h9 => absurd (nI_le (by omega) (by omega)) h9)
      refine bj_ev (C := B) (fun j hj => ?_) (ret _ _ dX7_init_88)
      by_cases e9 : j = b + 2
      · subst e9; rw [uB_s, hB _ (by omega), lc_i _ _ (kd_sc2 hb), M0t (by omega)]; exact ev_i (fun j hj => if_pos hj)
      rw [uB_n e9]; clear e9
      by_cases e9 : j = b + 1
      · subst e9; rw [uB_s, hB _ (by omega), lc_r _ _ (kd_sc1 hb)]; exact ev_q (fun j hj => if_pos hj)
      rw [uB_n e9]; clear e9
      by_cases e9 : j = b
      · subst e9; rw [uB_s, hB _ (Nat.le_refl _), lc_obj _ _ (kd_sc0 hb)]; exact ev_e (by simp [lf])
      rw [uB_n e9]; exact ev_rf _
    · intro i hi ih
      refine bj_iload_n F dX7_init_68 rfl ?_
      refine bj_sipush F (v := nI 256) dX7_init_69 (by decide) ?_
      refine bj_icmp_ge F (tgt := 88) dX7_init_72 (by decide) (fun h9 => absurd h9 (nI_ge (by omega) (by omega))) (fun _ => ?_)
      refine bj_aload_n F dX7_init_75 rfl ?_
      refine bj_get F g17 (k := b) (by omega) (by rw [uB_n (show b ≠ b + 2 by omega), uB_n (show b ≠ b + 1 by omega), uB_s]) rfl dX7_init_76 ?_
      refine bj_iload_n F dX7_init_79 rfl ?_
      refine bj_iconst F (v := -1) dX7_init_80 (by decide) ?_
      refine bj_iast F X (r := b + 2) (N := 256) (i := i) (by omega) (by rw [uB_s]) rfl hi (by decide) dX7_init_81 ?_
      refine bj_eB (C := uB (uB (uB B (b) (.inr (7, [.ref ((zE Z).2.2 (b + 1)), .ref ((zE Z).2.2 (b + 2)), .ref ((zE Z).2.2 (b + 3)), .ref ((zE Z).2.2 (b + 4))]))) (b + 1) (rq (zE Z) 0 60 (fun j => if j < 60 then some ((zE Z).2.2 (b + 5 + 2 * j)) else none))) (b + 2) ((.inl ((zE Z).2.1.1, 256, .inl (fun j => if j < (i + 1) then -1 else 0))))) (by rw [uB_u, tz_up]) ?_
      refine bj_iinc F dX7_init_82 rfl (iinc1 _) (by rw [hnl]; decide) ?_
      refine bj_goto F (tgt := 68) dX7_init_85 (by decide) ?_
      exact ih
  have lp : ∀ i, i ≤ 60 → BJ Z (4 + 2 * i, 632 + 17 * i) (b + 5 + 2 * i) (uB (uB (uB B (b) (.inr (7, [.ref ((zE Z).2.2 (b + 1)), .ref ((zE Z).2.2 (b + 2)), .ref ((zE Z).2.2 (b + 3)), .ref ((zE Z).2.2 (b + 4))]))) (b + 1) (rq (zE Z) 0 60 (fun j => if j < i then some ((zE Z).2.2 (b + 5 + 2 * j)) else none))) (b + 2) ((.inl ((zE Z).2.1.1, 256, .inl (fun j => if j < 0 then -1 else 0))))) 41 [some (.ref ((zE Z).2.2 (b))), some (.int (nI i))] [] := by
    refine jj_loop 60 ?_ ?_
    · refine bj_iload_n F dX7_init_41 rfl ?_
      refine bj_bipush F (v := nI 60) dX7_init_42 (by decide) ?_
      refine bj_icmp_ge F (tgt := 66) dX7_init_44 (by decide) (fun _ => ?_) (fun h9 => absurd (nI_le (by omega) (by omega)) h9)
      refine bj_iconst F (v := 0) dX7_init_66 (by decide) ?_
      refine bj_istore_n F dX7_init_67 (by rw [hnl]; decide) ?_
      dsimp only [lq_st, lq_clr, lq_no]
      refine bj_wid (κ2 := (124, 1652)) (by decide) (by decide) ?_
      refine bj_n (n2 := b + 125) (by omega) ?_
      exact lt 0 (Nat.zero_le _)
    · intro i hi ih
      refine bj_iload_n F dX7_init_41 rfl ?_
      refine bj_bipush F (v := nI 60) dX7_init_42 (by decide) ?_
      refine bj_icmp_ge F (tgt := 66) dX7_init_44 (by decide) (fun h9 => absurd h9 (nI_ge (by omega) (by omega))) (fun _ => ?_)
      refine bj_aload_n F dX7_init_47 rfl ?_
      refine bj_get F g11 (k := b) (by omega) (by rw [uB_n (show b ≠ b + 2 by omega), uB_n (show b ≠ b + 1 by omega), uB_s]) rfl dX7_init_48 ?_
      refine bj_iload_n F dX7_init_51 rfl ?_
      refine bj_new F X (ci := 0) (N := 1) (fs := [.null]) tyX0 tyX0_ok in_X08 (List.mem_cons_of_mem _ cl_X7_9) (List.mem_cons_of_mem _ in_X0) (List.mem_cons_of_mem _ ii_X0) rfl (by intro j hj; match j, hj with | 0, _ => rfl) (by first | omega | (dsimp only; done) | (dsimp only; omega)) ⟨by first | omega | (dsimp only; done) | (dsimp only; omega), by first | omega | (dsimp only; done) | (dsimp only; omega)⟩ dX7_init_52 ?_
      refine bj_dup F dX7_init_55 rfl ?_
      refine bj_callN F X (i_X0 X.1 (k := b + 5 + 2 * i) (cs_sc hb i hi).1 (cs_sc hb i hi).2 (fun y hy => by rw [M0z (by omega)]) (fun j hj => by rw [uB_n (show j ≠ b + 2 by omega), uB_n (show j ≠ b + 1 by omega), uB_n (show j ≠ b by omega), hB _ (show b ≤ j by omega)])) (gl_C cw_X0) rfl rfl rfl (List.mem_cons_of_mem _ ii_X0) (nw_X7_27) (List.mem_cons_of_mem _ im_X0) rfl (by decide +kernel) ⟨Nat.le_of_ble_eq_true rfl, Nat.le_of_ble_eq_true rfl⟩ (by omega) (by first | omega | (dsimp only; done) | (dsimp only; omega)) (Nat.le_of_ble_eq_true rfl) ⟨by first | omega | (dsimp only; done) | (dsimp only; omega), by first | omega | (dsimp only; done) | (dsimp only; omega)⟩ dX7_init_56 ?_
      refine bj_aast F X (t := 0) (r := b + 1) (N := 60) (q := b + 5 + 2 * i) (i := i) (by omega) (by rw [uB_n (show b + 1 ≠ b + 2 by omega), uB_s]) rfl (by omega) (by rw [uB_n (show b + 5 + 2 * i ≠ b + 2 by omega), uB_n (show b + 5 + 2 * i ≠ b + 1 by omega), uB_n (show b + 5 + 2 * i ≠ b by omega), hB _ (show b ≤ b + 5 + 2 * i by omega), lc_obj _ _ ((cs_sc hb i hi).1)]) rfl rfl hi (by decide) dX7_init_59 ?_
      refine bj_eB (C := uB (uB (uB B (b) (.inr (7, [.ref ((zE Z).2.2 (b + 1)), .ref ((zE Z).2.2 (b + 2)), .ref ((zE Z).2.2 (b + 3)), .ref ((zE Z).2.2 (b + 4))]))) (b + 1) (rq (zE Z) 0 60 (fun j => if j < (i + 1) then some ((zE Z).2.2 (b + 5 + 2 * j)) else none))) (b + 2) ((.inl ((zE Z).2.1.1, 256, .inl (fun j => if j < 0 then -1 else 0))))) (by
          funext j9
          simp only [uB]
          by_cases e9 : j9 = b + 1
          · rw [if_pos e9]
            simp only [e9, if_true, show ¬ b + 1 = b + 2 by omega, if_false]
            try rw [show (va_up (fun j => if j < i then some ((zE Z).2.2 (b + 5 + 2 * j)) else none) i (some ((zE Z).2.2 (b + 5 + 2 * i)))) = (fun j => if j < i + 1 then some ((zE Z).2.2 (b + 5 + 2 * j)) else none) from va_up_lt]
          · simp only [e9, if_false]) ?_
      refine bj_iinc F dX7_init_60 rfl (iinc1 _) (by rw [hnl]; decide) ?_
      refine bj_goto F (tgt := 41) dX7_init_63 (by decide) ?_
      refine bj_wid (κ2 := (4 + 2 * (i + 1), 632 + 17 * (i + 1))) (by first | omega | (dsimp only; done) | (dsimp only; omega)) (by first | omega | (dsimp only; done) | (dsimp only; omega)) ?_
      refine bj_n (n2 := b + 5 + 2 * (i + 1)) (by omega) ?_
      exact ih
  refine bj_aload_n F dX7_init_0 rfl ?_
  refine bj_obj F (List.mem_cons_of_mem _ ml_X7_3) (List.mem_cons_of_mem _ ob_in) (List.mem_cons_of_mem _ ob_co) (Nat.le_of_ble_eq_true rfl) (Nat.le_of_ble_eq_true rfl) dX7_init_1 ?_
  refine bj_aload_n F dX7_init_4 rfl ?_
  refine bj_bipush F (v := nI 60) dX7_init_5 (by decide) ?_
  refine bj_anew F X (n := b + 1) (t := 0) (N := 60) o0 rfl (List.mem_cons_of_mem _ cl_X7_9) (by decide) (by decide) (by decide) (by first | omega | (dsimp only; done) | (dsimp only; omega)) ⟨by first | omega | (dsimp only; done) | (dsimp only; omega), by first | omega | (dsimp only; done) | (dsimp only; omega)⟩ dX7_init_7 ?_
  refine bj_eB (C := uB (uB B (b) (.inr (7, [.null, .null, .null, .null]))) (b + 1) (rq (zE Z) 0 60 (fun j => if j < 0 then some ((zE Z).2.2 (b + 5 + 2 * j)) else none))) (by rw [← rq_0]) ?_
  refine bj_putF F X hin9 (ci := 7) (j := 0) (k := b) (C := RX7) (T := TX7) (N := 4) (ty0 := tyX7) (ty := tyX7 0) in_X79 tyX7_ok nmX7 rfl (by decide) rfl (List.mem_cons_of_mem _ fk_X7_11) rfl rfl (tyX7_ok 0 (by decide)) (by omega) (by rw [uB_n (show b ≠ b + 1 by omega), uB_s]) (Nat.le_of_ble_eq_true rfl) rfl rfl dX7_init_10 ?_
  refine bj_eB (C := uB (uB B (b) (.inr (7, [.ref ((zE Z).2.2 (b + 1)), .null, .null, .null]))) (b + 1) (rq (zE Z) 0 60 (fun j => if j < 0 then some ((zE Z).2.2 (b + 5 + 2 * j)) else none))) ((by rw [uB_c _ _ _ (show b + 1 ≠ b by omega), uB_u]; rfl)) ?_
  refine bj_aload_n F dX7_init_13 rfl ?_
  refine bj_sipush F (v := nI 256) dX7_init_14 (by decide) ?_
  refine bj_eB (C := uB (uB B b (.inr (7, [.ref ((zE Z).2.2 (b + 1)), .null, .null, .null]))) (b + 1) (rq (zE Z) 0 60 (fun j => if j < 0 then some ((zE Z).2.2 (b + 5 + 2 * j)) else none))) rfl ?_
  refine bj_topn F X (n := b + 2) (N := 256) (by decide) (by decide) (by decide) (List.mem_cons_of_mem _ ac_int) (by first | omega | (dsimp only; done) | (dsimp only; omega)) ⟨by first | omega | (dsimp only; done) | (dsimp only; omega), by first | omega | (dsimp only; done) | (dsimp only; omega)⟩ dX7_init_17 ?_
  refine bj_eB (C := uB (uB (uB B (b) (.inr (7, [.ref ((zE Z).2.2 (b + 1)), .null, .null, .null]))) (b + 1) (rq (zE Z) 0 60 (fun j => if j < 0 then some ((zE Z).2.2 (b + 5 + 2 * j)) else none))) (b + 2) ((.inl ((zE Z).2.1.1, 256, .inl (fun j => if j < 0 then -1 else 0))))) (by rw [tz_0]) ?_
  refine bj_putF F X hin9 (ci := 7) (j := 1) (k := b) (C := RX7) (T := TX7) (N := 4) (ty0 := tyX7) (ty := tyX7 1) in_X79 tyX7_ok nmX7 rfl (by decide) rfl (List.mem_cons_of_mem _ fk_X7_17) rfl rfl (tyX7_ok 1 (by decide)) (by omega) (by rw [uB_n (show b ≠ b + 2 by omega), uB_n (show b ≠ b + 1 by omega), uB_s]) (Nat.le_of_ble_eq_true rfl) rfl rfl dX7_init_19 ?_
  refine bj_eB (C := uB (uB (uB B (b) (.inr (7, [.ref ((zE Z).2.2 (b + 1)), .ref ((zE Z).2.2 (b + 2)), .null, .null]))) (b + 1) (rq (zE Z) 0 60 (fun j => if j < 0 then some ((zE Z).2.2 (b + 5 + 2 * j)) else none))) (b + 2) ((.inl ((zE Z).2.1.1, 256, .inl (fun j => if j < 0 then -1 else 0))))) (by
      funext j9
      simp only [uB]
      by_cases e9 : j9 = b
      · simp [e9, show ¬ b = b + 1 by omega, show ¬ b = b + 2 by omega]
      · simp [e9]) ?_
  refine bj_aload_n F dX7_init_22 rfl ?_
  refine bj_sipush F (v := nI 256) dX7_init_23 (by decide) ?_
  refine bj_newI F X (n := b + 3) (N := 256) (by decide) (by decide) (by decide) (by rw [uB_n (show b + 3 ≠ b + 2 by omega), uB_n (show b + 3 ≠ b + 1 by omega), uB_n (show b + 3 ≠ b by omega), hB _ (show b ≤ b + 3 by omega), lc_i _ _ (kd_sc3 hb)]; exact ev_i (fun j hj => by rw [M0z (by omega)])) (List.mem_cons_of_mem _ ac_int) (by first | omega | (dsimp only; done) | (dsimp only; omega)) ⟨by first | omega | (dsimp only; done) | (dsimp only; omega), by first | omega | (dsimp only; done) | (dsimp only; omega)⟩ dX7_init_26 ?_
  refine bj_putF F X hin9 (ci := 7) (j := 2) (k := b) (C := RX7) (T := TX7) (N := 4) (ty0 := tyX7) (ty := tyX7 2) in_X79 tyX7_ok nmX7 rfl (by decide) rfl (List.mem_cons_of_mem _ fk_X7_21) rfl rfl (tyX7_ok 2 (by decide)) (by omega) (by rw [uB_n (show b ≠ b + 2 by omega), uB_n (show b ≠ b + 1 by omega), uB_s]) (Nat.le_of_ble_eq_true rfl) rfl rfl dX7_init_28 ?_
  refine bj_eB (C := uB (uB (uB B (b) (.inr (7, [.ref ((zE Z).2.2 (b + 1)), .ref ((zE Z).2.2 (b + 2)), .ref ((zE Z).2.2 (b + 3)), .null]))) (b + 1) (rq (zE Z) 0 60 (fun j => if j < 0 then some ((zE Z).2.2 (b + 5 + 2 * j)) else none))) (b + 2) ((.inl ((zE Z).2.1.1, 256, .inl (fun j => if j < 0 then -1 else 0))))) (by
      funext j9
      simp only [uB]
      by_cases e9 : j9 = b
      · simp [e9, show ¬ b = b + 1 by omega, show ¬ b = b + 2 by omega]
      · simp [e9]) ?_
  refine bj_aload_n F dX7_init_31 rfl ?_
  refine bj_bipush F (v := nI 60) dX7_init_32 (by decide) ?_
  refine bj_newI F X (n := b + 4) (N := 60) (by decide) (by decide) (by decide) (by rw [uB_n (show b + 4 ≠ b + 2 by omega), uB_n (show b + 4 ≠ b + 1 by omega), uB_n (show b + 4 ≠ b by omega), hB _ (show b ≤ b + 4 by omega), lc_i _ _ (kd_sc4 hb)]; exact ev_i (fun j hj => by rw [M0z (by omega)])) (List.mem_cons_of_mem _ ac_int) (by first | omega | (dsimp only; done) | (dsimp only; omega)) ⟨by first | omega | (dsimp only; done) | (dsimp only; omega), by first | omega | (dsimp only; done) | (dsimp only; omega)⟩ dX7_init_34 ?_
  refine bj_putF F X hin9 (ci := 7) (j := 3) (k := b) (C := RX7) (T := TX7) (N := 4) (ty0 := tyX7) (ty := tyX7 3) in_X79 tyX7_ok nmX7 rfl (by decide) rfl (List.mem_cons_of_mem _ fk_X7_24) rfl rfl (tyX7_ok 3 (by decide)) (by omega) (by rw [uB_n (show b ≠ b + 2 by omega), uB_n (show b ≠ b + 1 by omega), uB_s]) (Nat.le_of_ble_eq_true rfl) rfl rfl dX7_init_36 ?_
  refine bj_eB (C := uB (uB (uB B (b) (.inr (7, [.ref ((zE Z).2.2 (b + 1)), .ref ((zE Z).2.2 (b + 2)), .ref ((zE Z).2.2 (b + 3)), .ref ((zE Z).2.2 (b + 4))]))) (b + 1) (rq (zE Z) 0 60 (fun j => if j < 0 then some ((zE Z).2.2 (b + 5 + 2 * j)) else none))) (b + 2) ((.inl ((zE Z).2.1.1, 256, .inl (fun j => if j < 0 then -1 else 0))))) (by
      funext j9
      simp only [uB]
      by_cases e9 : j9 = b
      · simp [e9, show ¬ b = b + 1 by omega, show ¬ b = b + 2 by omega]
      · simp [e9]) ?_
  refine bj_iconst F (v := 0) dX7_init_39 (by decide) ?_
  refine bj_istore_n F dX7_init_40 (by rw [hnl]; decide) ?_
  dsimp only [lq_st, lq_clr, lq_no]
  refine bj_wid (κ2 := (4 + 2 * 0, 632 + 17 * 0)) (by decide) (by decide) ?_
  refine bj_n (n2 := b + 5 + 2 * 0) (by omega) ?_
  exact lp 0 (Nat.zero_le _)
set_option maxRecDepth 100000 in
set_option maxHeartbeats 1000000 in
theorem i_X6 {l : Launch} {E : Ee} (hL : Ln E)  {B : Nat → va_E} (hB : ∀ j, 454 ≤ j → B j = lc E M0 j) : CtB l E yX6_init (.code yX6_init cX6_init 1 none :: gl) ({ frames := 2, cells := 3, slots := 273, locals := 32 } : Room) (454 + 1) (uB B (454) (.inr (6, [.null, .null, .int 0]))) (454) 3 273 (454 + 4) B := by
  refine ctB_of (L0 := [some (.ref (E.2.2 (454)))]) hL (by decide) rfl rfl (Nat.le_of_ble_eq_true rfl) rfl ?_
  intro Z hl hE hnl F X hin9 ret
  subst hl hE
  obtain ⟨-, -, -, o0, o3, o4, -⟩ := id X
  have in_X69 : ∀ w ∈ u_ws RX6 TX6 3, w ∈ (Cond.code yX6_init cX6_init 1 none :: gl) := fun w h => List.mem_cons_of_mem _ (lay_X6 w h)
  have in_X08 : ∀ w ∈ u_ws RX0 TX0 1, w ∈ (Cond.code yX6_init cX6_init 1 none :: gl) := fun w h => List.mem_cons_of_mem _ (lay_X0 w h)
  have p22 : FP Z 22 6 2 .int := fp_mk F (C := RX6) (T := TX6) (N := 3) in_X69 tyX6_ok nmX6 rfl (by decide) rfl (List.mem_cons_of_mem _ fk_X6_22) rfl (by decide +kernel)
  refine bj_aload_n F dX6_init_0 rfl ?_
  refine bj_obj F (List.mem_cons_of_mem _ ml_X6_3) (List.mem_cons_of_mem _ ob_in) (List.mem_cons_of_mem _ ob_co) (Nat.le_of_ble_eq_true rfl) (Nat.le_of_ble_eq_true rfl) dX6_init_1 ?_
  refine bj_aload_n F dX6_init_4 rfl ?_
  refine bj_new F X (ci := 0) (N := 1) (fs := [.null]) tyX0 tyX0_ok in_X08 (List.mem_cons_of_mem _ cl_X6_9) (List.mem_cons_of_mem _ in_X0) (List.mem_cons_of_mem _ ii_X0) rfl (by intro j hj; match j, hj with | 0, _ => rfl) (by first | omega | (dsimp only; done) | (dsimp only; omega)) ⟨by first | omega | (dsimp only; done) | (dsimp only; omega), by first | omega | (dsimp only; done) | (dsimp only; omega)⟩ dX6_init_5 ?_
  refine bj_dup F dX6_init_8 rfl ?_
  refine bj_callN F X (i_X0 X.1 (k := 455) kd_455 kd_456 (fun y hy => by rw [M0z (by omega)]) (fun j hj => by rw [uB_n (show j ≠ 454 by omega), hB _ (show 454 ≤ j by omega)])) (gl_C cw_X0) rfl rfl rfl (List.mem_cons_of_mem _ ii_X0) (nw_X6_11) (List.mem_cons_of_mem _ im_X0) rfl (by decide +kernel) ⟨Nat.le_of_ble_eq_true rfl, Nat.le_of_ble_eq_true rfl⟩ (by omega) (by first | omega | (dsimp only; done) | (dsimp only; omega)) (Nat.le_of_ble_eq_true rfl) ⟨by first | omega | (dsimp only; done) | (dsimp only; omega), by first | omega | (dsimp only; done) | (dsimp only; omega)⟩ dX6_init_9 ?_
  refine bj_putF F X hin9 (ci := 6) (j := 0) (k := 454) (C := RX6) (T := TX6) (N := 3) (ty0 := tyX6) (ty := tyX6 0) in_X69 tyX6_ok nmX6 rfl (by decide) rfl (List.mem_cons_of_mem _ fk_X6_12) rfl rfl (tyX6_ok 0 (by decide)) (by omega) (by rw [uB_s]) (Nat.le_of_ble_eq_true rfl) rfl rfl dX6_init_12 ?_
  refine bj_eB (C := uB B (454) (.inr (6, [.ref ((zE Z).2.2 (455)), .null, .int 0]))) (uB_u _ _ _ _) ?_
  refine bj_aload_n F dX6_init_15 rfl ?_
  refine bj_sipush F (v := nI 256) dX6_init_16 (by decide) ?_
  refine bj_newI F X (n := 457) (N := 256) (by decide) (by decide) (by decide) (by rw [uB_n (show 457 ≠ 454 by omega), hB _ (show 454 ≤ 457 by omega), lc_i _ _ (kd_queue)]; exact ev_i (fun j hj => by rw [M0z (by omega)])) (List.mem_cons_of_mem _ ac_int) (by first | omega | (dsimp only; done) | (dsimp only; omega)) ⟨by first | omega | (dsimp only; done) | (dsimp only; omega), by first | omega | (dsimp only; done) | (dsimp only; omega)⟩ dX6_init_19 ?_
  refine bj_putF F X hin9 (ci := 6) (j := 1) (k := 454) (C := RX6) (T := TX6) (N := 3) (ty0 := tyX6) (ty := tyX6 1) in_X69 tyX6_ok nmX6 rfl (by decide) rfl (List.mem_cons_of_mem _ fk_X6_18) rfl rfl (tyX6_ok 1 (by decide)) (by omega) (by rw [uB_s]) (Nat.le_of_ble_eq_true rfl) rfl rfl dX6_init_21 ?_
  refine bj_eB (C := uB B (454) (.inr (6, [.ref ((zE Z).2.2 (455)), .ref ((zE Z).2.2 (457)), .int 0]))) (uB_u _ _ _ _) ?_
  refine bj_aload_n F dX6_init_24 rfl ?_
  refine bj_iconst F (v := 0) dX6_init_25 (by decide) ?_
  refine bj_put F X (ci := 6) (j := 2) (k := 454) p22 (by omega) (by rw [uB_s]) (Nat.le_of_ble_eq_true rfl) rfl rfl dX6_init_26 ?_
  refine bj_eB (C := uB B (454) (.inr (6, [.ref ((zE Z).2.2 (455)), .ref ((zE Z).2.2 (457)), .int 0]))) (uB_u _ _ _ _) ?_
  refine bj_ev (C := B) (fun j hj => ?_) (ret _ _ dX6_init_29)
  by_cases e9 : j = 454
  · subst e9; rw [uB_s, hB _ (Nat.le_refl _), lc_obj _ _ kd_Reg]; exact ev_e (by simp [lf, M0z (k := 454) (by omega)])
  rw [uB_n e9]; exact ev_rf _
set_option maxRecDepth 100000 in
set_option maxHeartbeats 1000000 in
theorem i_X3 {l : Launch} {E : Ee} (hL : Ln E) {i : Nat} (hi : i < 6) {B : Nat → va_E} (hB : ∀ j, 460 + 3 * i ≤ j → B j = lc E M0 j) : CtB l E yX3_init (.code yX3_init cX3_init 1 none :: gl) ({ frames := 1, cells := 2, slots := 316, locals := 12 } : Room) (460 + 3 * i + 1) (uB B (460 + 3 * i) (.inr (3, [.int 0, .int 0, .null, .null]))) (460 + 3 * i) 2 316 (460 + 3 * i + 3) B := by
  refine ctB_of (L0 := [some (.ref (E.2.2 (460 + 3 * i)))]) hL (by decide) rfl rfl (Nat.le_of_ble_eq_true rfl) rfl ?_
  intro Z hl hE hnl F X hin9 ret
  subst hl hE
  obtain ⟨-, -, -, o0, o3, o4, -⟩ := id X
  have in_X39 : ∀ w ∈ u_ws RX3 TX3 4, w ∈ (Cond.code yX3_init cX3_init 1 none :: gl) := fun w h => List.mem_cons_of_mem _ (lay_X3 w h)
  have p9 : FP Z 9 3 0 .boolean := fp_mk F (C := RX3) (T := TX3) (N := 4) in_X39 tyX3_ok nmX3 rfl (by decide) rfl (List.mem_cons_of_mem _ fk_X3_9) rfl (by decide +kernel)
  have p15 : FP Z 15 3 1 .int := fp_mk F (C := RX3) (T := TX3) (N := 4) in_X39 tyX3_ok nmX3 rfl (by decide) rfl (List.mem_cons_of_mem _ fk_X3_15) rfl (by decide +kernel)
  refine bj_aload_n F dX3_init_0 rfl ?_
  refine bj_obj F (List.mem_cons_of_mem _ ml_X3_3) (List.mem_cons_of_mem _ ob_in) (List.mem_cons_of_mem _ ob_co) (Nat.le_of_ble_eq_true rfl) (Nat.le_of_ble_eq_true rfl) dX3_init_1 ?_
  refine bj_aload_n F dX3_init_4 rfl ?_
  refine bj_iconst F (v := 0) dX3_init_5 (by decide) ?_
  refine bj_put F X (ci := 3) (j := 0) (k := 460 + 3 * i) p9 (by omega) (by rw [uB_s]) (Nat.le_of_ble_eq_true rfl) rfl rfl dX3_init_6 ?_
  refine bj_eB (C := uB B (460 + 3 * i) (.inr (3, [.int 0, .int 0, .null, .null]))) (uB_u _ _ _ _) ?_
  refine bj_aload_n F dX3_init_9 rfl ?_
  refine bj_iconst F (v := 0) dX3_init_10 (by decide) ?_
  refine bj_put F X (ci := 3) (j := 1) (k := 460 + 3 * i) p15 (by omega) (by rw [uB_s]) (Nat.le_of_ble_eq_true rfl) rfl rfl dX3_init_11 ?_
  refine bj_eB (C := uB B (460 + 3 * i) (.inr (3, [.int 0, .int 0, .null, .null]))) (uB_u _ _ _ _) ?_
  refine bj_aload_n F dX3_init_14 rfl ?_
  refine bj_bipush F (v := nI 60) dX3_init_15 (by decide) ?_
  refine bj_newZ F X (n := 460 + 3 * i + 1) (N := 60) (by decide) (by decide) (by decide) (by rw [uB_n (show 460 + 3 * i + 1 ≠ 460 + 3 * i by omega), hB _ (show 460 + 3 * i ≤ 460 + 3 * i + 1 by omega), lc_z _ _ (kd_mk1 i hi)]; exact ev_i (fun j hj => by rw [M0z (by omega)])) (List.mem_cons_of_mem _ ac_boolean) (by first | omega | (dsimp only; done) | (dsimp only; omega)) ⟨by first | omega | (dsimp only; done) | (dsimp only; omega), by first | omega | (dsimp only; done) | (dsimp only; omega)⟩ dX3_init_17 ?_
  refine bj_putF F X hin9 (ci := 3) (j := 2) (k := 460 + 3 * i) (C := RX3) (T := TX3) (N := 4) (ty0 := tyX3) (ty := tyX3 2) in_X39 tyX3_ok nmX3 rfl (by decide) rfl (List.mem_cons_of_mem _ fk_X3_19) rfl rfl (tyX3_ok 2 (by decide)) (by omega) (by rw [uB_s]) (Nat.le_of_ble_eq_true rfl) rfl rfl dX3_init_19 ?_
  refine bj_eB (C := uB B (460 + 3 * i) (.inr (3, [.int 0, .int 0, .ref ((zE Z).2.2 (460 + 3 * i + 1)), .null]))) (uB_u _ _ _ _) ?_
  refine bj_aload_n F dX3_init_22 rfl ?_
  refine bj_sipush F (v := nI 256) dX3_init_23 (by decide) ?_
  refine bj_newI F X (n := 460 + 3 * i + 2) (N := 256) (by decide) (by decide) (by decide) (by rw [uB_n (show 460 + 3 * i + 2 ≠ 460 + 3 * i by omega), hB _ (show 460 + 3 * i ≤ 460 + 3 * i + 2 by omega), lc_i _ _ (kd_mk2 i hi)]; exact ev_i (fun j hj => by rw [M0z (by omega)])) (List.mem_cons_of_mem _ ac_int) (by first | omega | (dsimp only; done) | (dsimp only; omega)) ⟨by first | omega | (dsimp only; done) | (dsimp only; omega), by first | omega | (dsimp only; done) | (dsimp only; omega)⟩ dX3_init_26 ?_
  refine bj_putF F X hin9 (ci := 3) (j := 3) (k := 460 + 3 * i) (C := RX3) (T := TX3) (N := 4) (ty0 := tyX3) (ty := tyX3 3) in_X39 tyX3_ok nmX3 rfl (by decide) rfl (List.mem_cons_of_mem _ fk_X3_23) rfl rfl (tyX3_ok 3 (by decide)) (by omega) (by rw [uB_s]) (Nat.le_of_ble_eq_true rfl) rfl rfl dX3_init_28 ?_
  refine bj_eB (C := uB B (460 + 3 * i) (.inr (3, [.int 0, .int 0, .ref ((zE Z).2.2 (460 + 3 * i + 1)), .ref ((zE Z).2.2 (460 + 3 * i + 2))]))) (uB_u _ _ _ _) ?_
  refine bj_ev (C := B) (fun j hj => ?_) (ret _ _ dX3_init_31)
  by_cases e9 : j = 460 + 3 * i
  · subst e9; rw [uB_s, hB _ (Nat.le_refl _), lc_obj _ _ (kd_mk0 i hi)]; exact ev_e (by simp [lf, M0z (k := 460 + 3 * i) (by omega)])
  rw [uB_n e9]; exact ev_rf _
set_option maxRecDepth 100000 in
set_option maxHeartbeats 1000000 in
theorem i_X5 {l : Launch} {E : Ee} (hL : Ln E)  {B : Nat → va_E} (hB : ∀ j, 1 ≤ j → B j = lc E M0 j) : CtB l E yX5_init (.code yX5_init cX5_init 1 none :: gl) ({ frames := 1, cells := 3, slots := 52, locals := 12 } : Room) (1 + 1) (uB B (1) (.inr (5, [.null, .int 0, .null, .null, .int 0, .int 0, .int 0]))) (1) 3 52 (1 + 4) B := by
  refine ctB_of (L0 := [some (.ref (E.2.2 (1)))]) hL (by decide) rfl rfl (Nat.le_of_ble_eq_true rfl) rfl ?_
  intro Z hl hE hnl F X hin9 ret
  subst hl hE
  obtain ⟨-, -, -, o0, o3, o4, -⟩ := id X
  have in_X59 : ∀ w ∈ u_ws RX5 TX5 7, w ∈ (Cond.code yX5_init cX5_init 1 none :: gl) := fun w h => List.mem_cons_of_mem _ (lay_X5 w h)
  have p15 : FP Z 15 5 1 .int := fp_mk F (C := RX5) (T := TX5) (N := 7) in_X59 tyX5_ok nmX5 rfl (by decide) rfl (List.mem_cons_of_mem _ fk_X5_15) rfl (by decide +kernel)
  have p25 : FP Z 25 5 4 .int := fp_mk F (C := RX5) (T := TX5) (N := 7) in_X59 tyX5_ok nmX5 rfl (by decide) rfl (List.mem_cons_of_mem _ fk_X5_25) rfl (by decide +kernel)
  have p28 : FP Z 28 5 5 .boolean := fp_mk F (C := RX5) (T := TX5) (N := 7) in_X59 tyX5_ok nmX5 rfl (by decide) rfl (List.mem_cons_of_mem _ fk_X5_28) rfl (by decide +kernel)
  have p32 : FP Z 32 5 6 .int := fp_mk F (C := RX5) (T := TX5) (N := 7) in_X59 tyX5_ok nmX5 rfl (by decide) rfl (List.mem_cons_of_mem _ fk_X5_32) rfl (by decide +kernel)
  refine bj_aload_n F dX5_init_0 rfl ?_
  refine bj_obj F (List.mem_cons_of_mem _ ml_X5_3) (List.mem_cons_of_mem _ ob_in) (List.mem_cons_of_mem _ ob_co) (Nat.le_of_ble_eq_true rfl) (Nat.le_of_ble_eq_true rfl) dX5_init_1 ?_
  refine bj_aload_n F dX5_init_4 rfl ?_
  refine bj_bipush F (v := nI 40) dX5_init_5 (by decide) ?_
  refine bj_newI F X (n := 2) (N := 40) (by decide) (by decide) (by decide) (by rw [uB_n (show 2 ≠ 1 by omega), hB _ (show 1 ≤ 2 by omega), lc_i _ _ (kd_codes)]; exact ev_i (fun j hj => by rw [M0z (by omega)])) (List.mem_cons_of_mem _ ac_int) (by first | omega | (dsimp only; done) | (dsimp only; omega)) ⟨by first | omega | (dsimp only; done) | (dsimp only; omega), by first | omega | (dsimp only; done) | (dsimp only; omega)⟩ dX5_init_7 ?_
  refine bj_putF F X hin9 (ci := 5) (j := 0) (k := 1) (C := RX5) (T := TX5) (N := 7) (ty0 := tyX5) (ty := tyX5 0) in_X59 tyX5_ok nmX5 rfl (by decide) rfl (List.mem_cons_of_mem _ fk_X5_9) rfl rfl (tyX5_ok 0 (by decide)) (by omega) (by rw [uB_s]) (Nat.le_of_ble_eq_true rfl) rfl rfl dX5_init_9 ?_
  refine bj_eB (C := uB B (1) (.inr (5, [.ref ((zE Z).2.2 (2)), .int 0, .null, .null, .int 0, .int 0, .int 0]))) (uB_u _ _ _ _) ?_
  refine bj_aload_n F dX5_init_12 rfl ?_
  refine bj_iconst F (v := 0) dX5_init_13 (by decide) ?_
  refine bj_put F X (ci := 5) (j := 1) (k := 1) p15 (by omega) (by rw [uB_s]) (Nat.le_of_ble_eq_true rfl) rfl rfl dX5_init_14 ?_
  refine bj_eB (C := uB B (1) (.inr (5, [.ref ((zE Z).2.2 (2)), .int 0, .null, .null, .int 0, .int 0, .int 0]))) (uB_u _ _ _ _) ?_
  refine bj_aload_n F dX5_init_17 rfl ?_
  refine bj_bipush F (v := nI 6) dX5_init_18 (by decide) ?_
  refine bj_newI F X (n := 3) (N := 6) (by decide) (by decide) (by decide) (by rw [uB_n (show 3 ≠ 1 by omega), hB _ (show 1 ≤ 3 by omega), lc_i _ _ (kd_cols)]; exact ev_i (fun j hj => by rw [M0z (by omega)])) (List.mem_cons_of_mem _ ac_int) (by first | omega | (dsimp only; done) | (dsimp only; omega)) ⟨by first | omega | (dsimp only; done) | (dsimp only; omega), by first | omega | (dsimp only; done) | (dsimp only; omega)⟩ dX5_init_20 ?_
  refine bj_putF F X hin9 (ci := 5) (j := 2) (k := 1) (C := RX5) (T := TX5) (N := 7) (ty0 := tyX5) (ty := tyX5 2) in_X59 tyX5_ok nmX5 rfl (by decide) rfl (List.mem_cons_of_mem _ fk_X5_19) rfl rfl (tyX5_ok 2 (by decide)) (by omega) (by rw [uB_s]) (Nat.le_of_ble_eq_true rfl) rfl rfl dX5_init_22 ?_
  refine bj_eB (C := uB B (1) (.inr (5, [.ref ((zE Z).2.2 (2)), .int 0, .ref ((zE Z).2.2 (3)), .null, .int 0, .int 0, .int 0]))) (uB_u _ _ _ _) ?_
  refine bj_aload_n F dX5_init_25 rfl ?_
  refine bj_bipush F (v := nI 6) dX5_init_26 (by decide) ?_
  refine bj_newI F X (n := 4) (N := 6) (by decide) (by decide) (by decide) (by rw [uB_n (show 4 ≠ 1 by omega), hB _ (show 1 ≤ 4 by omega), lc_i _ _ (kd_prows)]; exact ev_i (fun j hj => by rw [M0z (by omega)])) (List.mem_cons_of_mem _ ac_int) (by first | omega | (dsimp only; done) | (dsimp only; omega)) ⟨by first | omega | (dsimp only; done) | (dsimp only; omega), by first | omega | (dsimp only; done) | (dsimp only; omega)⟩ dX5_init_28 ?_
  refine bj_putF F X hin9 (ci := 5) (j := 3) (k := 1) (C := RX5) (T := TX5) (N := 7) (ty0 := tyX5) (ty := tyX5 3) in_X59 tyX5_ok nmX5 rfl (by decide) rfl (List.mem_cons_of_mem _ fk_X5_22) rfl rfl (tyX5_ok 3 (by decide)) (by omega) (by rw [uB_s]) (Nat.le_of_ble_eq_true rfl) rfl rfl dX5_init_30 ?_
  refine bj_eB (C := uB B (1) (.inr (5, [.ref ((zE Z).2.2 (2)), .int 0, .ref ((zE Z).2.2 (3)), .ref ((zE Z).2.2 (4)), .int 0, .int 0, .int 0]))) (uB_u _ _ _ _) ?_
  refine bj_aload_n F dX5_init_33 rfl ?_
  refine bj_iconst F (v := 0) dX5_init_34 (by decide) ?_
  refine bj_put F X (ci := 5) (j := 4) (k := 1) p25 (by omega) (by rw [uB_s]) (Nat.le_of_ble_eq_true rfl) rfl rfl dX5_init_35 ?_
  refine bj_eB (C := uB B (1) (.inr (5, [.ref ((zE Z).2.2 (2)), .int 0, .ref ((zE Z).2.2 (3)), .ref ((zE Z).2.2 (4)), .int 0, .int 0, .int 0]))) (uB_u _ _ _ _) ?_
  refine bj_aload_n F dX5_init_38 rfl ?_
  refine bj_iconst F (v := 0) dX5_init_39 (by decide) ?_
  refine bj_put F X (ci := 5) (j := 5) (k := 1) p28 (by omega) (by rw [uB_s]) (Nat.le_of_ble_eq_true rfl) rfl rfl dX5_init_40 ?_
  refine bj_eB (C := uB B (1) (.inr (5, [.ref ((zE Z).2.2 (2)), .int 0, .ref ((zE Z).2.2 (3)), .ref ((zE Z).2.2 (4)), .int 0, .int 0, .int 0]))) (uB_u _ _ _ _) ?_
  refine bj_aload_n F dX5_init_43 rfl ?_
  refine bj_iconst F (v := -1) dX5_init_44 (by decide) ?_
  refine bj_put F X (ci := 5) (j := 6) (k := 1) p32 (by omega) (by rw [uB_s]) (Nat.le_of_ble_eq_true rfl) rfl rfl dX5_init_45 ?_
  refine bj_eB (C := uB B (1) (.inr (5, [.ref ((zE Z).2.2 (2)), .int 0, .ref ((zE Z).2.2 (3)), .ref ((zE Z).2.2 (4)), .int 0, .int 0, .int (-1)]))) (uB_u _ _ _ _) ?_
  refine bj_ev (C := B) (fun j hj => ?_) (ret _ _ dX5_init_48)
  by_cases e9 : j = 1
  · subst e9; rw [uB_s, hB _ (Nat.le_refl _), lc_obj _ _ kd_PT]; exact ev_e (by simp [lf, M01])
  rw [uB_n e9]; exact ev_rf _
