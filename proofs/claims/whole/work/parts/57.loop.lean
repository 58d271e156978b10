/-! the law's loop -/
set_option maxRecDepth 100000 in
set_option maxHeartbeats 2000000 in
theorem law_step {Z : Zt} {b N : Nat} {xs : Nat → Int32} (F : ZF Z code (cxL :: gl) RL room_1) (X : WX Z) (S : LX Z b N xs) (hnl : zn Z = 9) (hst : (zl Z).stackTraces = false) (hN : N ≤ 2560) {κ : Nat × Nat} {M : Mm} {i W : Nat} (hi : i + 5 ≤ N) (hI : INV M W) (hWW : W < 1000) (hκ : κ.1 + 1 ≤ 601024 ∧ κ.2 + 6 ≤ 7293034) (kk : ∀ M2, INV M2 (W + 1) → JJ Z (κ.1 + 1, κ.2 + 6) M2 1606 (Lw (zE Z) b i) []) : JJ Z κ M 32 (Lw (zE Z) b i) [] := by
  refine jj_aload_n F dL_law_32 rfl ?_
  refine jj_iload F dL_law_33 rfl ?_
  refine jj_sld F S rfl (by omega) hN dL_law_35 ?_
  refine jj_bipush F (v := nI 31) dL_law_36 (by decide) ?_
  refine jj_iand F dL_law_38 ?_
  obtain ⟨j, hj, ej⟩ := pk_andE (xs i) (m := nI 31) 5 (by decide)
  refine jj_topi ej ?_
  clear ej
  rcases (show j = 0 ∨ j = 1 ∨ j = 2 ∨ j = 3 ∨ j = 4 ∨ j = 5 ∨ j = 6 ∨ j = 7 ∨ j = 8 ∨ j = 9 ∨ j = 10 ∨ j = 11 ∨ j = 12 ∨ j = 13 ∨ j = 14 ∨ j = 15 ∨ j = 16 ∨ j = 17 ∨ j = 18 ∨ j = 19 ∨ j = 20 ∨ j = 21 ∨ j = 22 ∨ j = 23 ∨ j = 24 ∨ j = 25 ∨ 26 ≤ j by omega) with rfl | rfl | rfl | rfl | rfl | rfl | rfl | rfl | rfl | rfl | rfl | rfl | rfl | rfl | rfl | rfl | rfl | rfl | rfl | rfl | rfl | rfl | rfl | rfl | rfl | rfl | hj2
  · refine jj_tableIn F (off := 117) (tgt := 156) dL_law_39 (by decide) (by decide) (by decide) (by decide) ?_
    exact law_clear F X S hnl hst hN hi hI hWW hκ kk
  · refine jj_tableIn F (off := 130) (tgt := 169) dL_law_39 (by decide) (by decide) (by decide) (by decide) ?_
    exact law_pass F X S hnl hst hN hi hI hWW hκ kk
  · refine jj_tableIn F (off := 186) (tgt := 225) dL_law_39 (by decide) (by decide) (by decide) (by decide) ?_
    exact law_append F X S hnl hst hN hi hI hWW hκ kk
  · refine jj_tableIn F (off := 242) (tgt := 281) dL_law_39 (by decide) (by decide) (by decide) (by decide) ?_
    exact law_clearBuffer F X S hnl hst hN hi hI hWW hκ kk
  · refine jj_tableIn F (off := 255) (tgt := 294) dL_law_39 (by decide) (by decide) (by decide) (by decide) ?_
    exact law_firstError F X S hnl hst hN hi hI hWW hκ kk
  · refine jj_tableIn F (off := 268) (tgt := 307) dL_law_39 (by decide) (by decide) (by decide) (by decide) ?_
    exact law_stroke F X S hnl hst hN hi hI hWW hκ kk
  · refine jj_tableIn F (off := 360) (tgt := 399) dL_law_39 (by decide) (by decide) (by decide) (by decide) ?_
    exact law_erase F X S hnl hst hN hi hI hWW hκ kk
  · refine jj_tableIn F (off := 440) (tgt := 479) dL_law_39 (by decide) (by decide) (by decide) (by decide) ?_
    exact law_fill F X S hnl hst hN hi hI hWW hκ kk
  · refine jj_tableIn F (off := 532) (tgt := 571) dL_law_39 (by decide) (by decide) (by decide) (by decide) ?_
    exact law_undo F X S hnl hst hN hi hI hWW hκ kk
  · refine jj_tableIn F (off := 588) (tgt := 627) dL_law_39 (by decide) (by decide) (by decide) (by decide) ?_
    exact law_redo F X S hnl hst hN hi hI hWW hκ kk
  · refine jj_tableIn F (off := 644) (tgt := 683) dL_law_39 (by decide) (by decide) (by decide) (by decide) ?_
    exact law_lease F X S hnl hst hN hi hI hWW hκ kk
  · refine jj_tableIn F (off := 736) (tgt := 775) dL_law_39 (by decide) (by decide) (by decide) (by decide) ?_
    exact law_release F X S hnl hst hN hi hI hWW hκ kk
  · refine jj_tableIn F (off := 792) (tgt := 831) dL_law_39 (by decide) (by decide) (by decide) (by decide) ?_
    exact law_holder F X S hnl hst hN hi hI hWW hκ kk
  · refine jj_tableIn F (off := 848) (tgt := 887) dL_law_39 (by decide) (by decide) (by decide) (by decide) ?_
    exact law_setMark F X S hnl hst hN hi hI hWW hκ kk
  · refine jj_tableIn F (off := 904) (tgt := 943) dL_law_39 (by decide) (by decide) (by decide) (by decide) ?_
    exact law_replay F X S hnl hst hN hi hI hWW hκ kk
  · refine jj_tableIn F (off := 972) (tgt := 1011) dL_law_39 (by decide) (by decide) (by decide) (by decide) ?_
    exact law_difference F X S hnl hst hN hi hI hWW hκ kk
  · refine jj_tableIn F (off := 1028) (tgt := 1067) dL_law_39 (by decide) (by decide) (by decide) (by decide) ?_
    exact law_rewind F X S hnl hst hN hi hI hWW hκ kk
  · refine jj_tableIn F (off := 1084) (tgt := 1123) dL_law_39 (by decide) (by decide) (by decide) (by decide) ?_
    exact law_color F X S hnl hst hN hi hI hWW hκ kk
  · refine jj_tableIn F (off := 1140) (tgt := 1179) dL_law_39 (by decide) (by decide) (by decide) (by decide) ?_
    exact law_colorLater F X S hnl hst hN hi hI hWW hκ kk
  · refine jj_tableIn F (off := 1208) (tgt := 1247) dL_law_39 (by decide) (by decide) (by decide) (by decide) ?_
    exact law_top F X S hnl hst hN hi hI hWW hκ kk
  · refine jj_tableIn F (off := 1264) (tgt := 1303) dL_law_39 (by decide) (by decide) (by decide) (by decide) ?_
    exact law_count F X S hnl hst hN hi hI hWW hκ kk
  · refine jj_tableIn F (off := 1320) (tgt := 1359) dL_law_39 (by decide) (by decide) (by decide) (by decide) ?_
    exact law_operation F X S hnl hst hN hi hI hWW hκ kk
  · refine jj_tableIn F (off := 1388) (tgt := 1427) dL_law_39 (by decide) (by decide) (by decide) (by decide) ?_
    exact law_ifSwitched F X S hnl hst hN hi hI hWW hκ kk
  · refine jj_tableIn F (off := 1444) (tgt := 1483) dL_law_39 (by decide) (by decide) (by decide) (by decide) ?_
    exact law_user F X S hnl hst hN hi hI hWW hκ kk
  · refine jj_tableIn F (off := 1512) (tgt := 1551) dL_law_39 (by decide) (by decide) (by decide) (by decide) ?_
    exact law_meanStrength F X S hnl hst hN hi hI hWW hκ kk
  · refine jj_tableIn F (off := 1553) (tgt := 1592) dL_law_39 (by decide) (by decide) (by decide) (by decide) ?_
    exact law_digest F X S hnl hst hN hi hI hWW hκ kk
  · refine jj_tableOut F (tgt := 1606) dL_law_39 (Or.inr (by rw [nI_toInt (by omega)]; omega)) (by decide) ?_
    refine jj_wid (κ2 := (κ.1 + 1, κ.2 + 6)) (Nat.le_succ _) (by show κ.2 ≤ κ.2 + 6; omega) ?_
    obtain ⟨a, hB, hM⟩ := hI
    exact kk M ⟨a, RelB_W hB (by omega), RelM_W hM (by omega)⟩
set_option maxRecDepth 100000 in
theorem law_loop {Z : Zt} {b N : Nat} {xs : Nat → Int32} (F : ZF Z code (cxL :: gl) RL room_1) (X : WX Z) (S : LX Z b N xs) (hnl : zn Z = 9) (hst : (zl Z).stackTraces = false) (hN : N ≤ 2560) (c0 s0 : Nat) (hc0 : c0 ≤ 600000) (hs0 : s0 ≤ 7000000) (fin : ∀ κ M L, κ.1 ≤ 601024 → κ.2 ≤ 7293034 → JJ Z κ M 1613 L [.int (nI 1)]) : ∀ t, t ≤ N / 5 → ∀ M, INV M t → JJ Z (c0 + t, s0 + 6 * t) M 23 (Lw (zE Z) b (5 * t)) [] := by
  have hd5 : 5 * (N / 5) ≤ N := Nat.mul_div_le N 5
  have hd6 : N < 5 * (N / 5) + 5 := by have := Nat.lt_div_mul_add (a := N) (b := 5) (by omega); omega
  refine jj_loop (N / 5) ?_ ?_
  · intro M hI
    refine jj_iload F dL_law_23 rfl ?_
    refine jj_aload_n F dL_law_25 rfl ?_
    refine jj_slen F S dL_law_26 ?_
    refine jj_iconst F (v := nI 5) dL_law_27 (by decide) ?_
    refine jj_isub F dL_law_28 ?_
    refine jj_icmp_gt F (tgt := 1612) dL_law_29 (by decide) (fun _ => ?_) (fun h9 => absurd (show nI N - nI 5 < nI (5 * (N / 5)) by rw [Int32.lt_iff_toInt_lt, pk_sub_toInt (by omega) (by omega), nI_toInt (by omega)]; omega) h9)
    refine jj_iconst F (v := nI 1) dL_law_1612 (by decide) ?_
    exact fin _ _ _ (by show c0 + N / 5 ≤ 601024; omega) (by show s0 + 6 * (N / 5) ≤ 7293034; omega)
  · intro t ht ih M hI
    have h5 : 5 * t + 5 ≤ N := by omega
    refine jj_iload F dL_law_23 rfl ?_
    refine jj_aload_n F dL_law_25 rfl ?_
    refine jj_slen F S dL_law_26 ?_
    refine jj_iconst F (v := nI 5) dL_law_27 (by decide) ?_
    refine jj_isub F dL_law_28 ?_
    refine jj_icmp_gt F (tgt := 1612) dL_law_29 (by decide) (fun h9 => absurd h9 (show ¬ nI N - nI 5 < nI (5 * t) by rw [Int32.lt_iff_toInt_lt, pk_sub_toInt (by omega) (by omega), nI_toInt (by omega)]; omega)) (fun _ => ?_)
    refine law_step F X S hnl hst hN h5 hI (by omega) ⟨by show c0 + t + 1 ≤ 601024; omega, by show s0 + 6 * t + 6 ≤ 7293034; omega⟩ (fun M2 hI2 => ?_)
    refine jj_iinc F dL_law_1606 rfl (show nI (5 * t) + Int32.ofInt 5 = nI (5 * (t + 1)) from nI_add (5 * t) 5) (by rw [hnl]; decide) ?_
    dsimp only [lq_st, lq_clr, lq_no]
    refine jj_goto F (tgt := 23) dL_law_1609 (by decide) ?_
    exact ih M2 hI2
