/-! a new board and a new reference mean the empty state -/
theorem bsum_f : ∀ n, bsum (fun _ => false) n = 0
  | 0 => rfl
  | n + 1 => by
    have := bsum_f n
    simp [bsum, this]
theorem fb_f : ∀ n, fb_ct (fun _ => false) n = 0
  | 0 => rfl
  | n + 1 => by
    have := fb_f n
    simp [fb_ct, this]
theorem rows_f : rowsOf (fun _ => false) = fun _ => 0 := by
  funext y
  show nI (bsum (fun _ => false) 16) = 0
  rw [bsum_f]
  rfl
theorem lws_f : lws (fun _ _ => false) = fun _ => 0 := by
  funext q
  show lN (bsum (fun _ => false) 64) = 0
  rw [bsum_f]
  rfl
def a00 : Ab := (0, 0, fun _ _ => 0, fun _ => false, fun _ _ => false, fun _ => 0, [], fun _ => (false, 0, fun _ => false, 0), 0, fun _ => 0, M0)
theorem relB_0 : RelB M0 a00 0 := by
  refine ⟨⟨Nat.zero_le _, Nat.zero_le _, ?_, ?_, fun i hi => absurd hi (Nat.not_lt_zero _), fun i hi => absurd hi (Nat.not_lt_zero _), fun i hi => absurd hi (Nat.not_lt_zero _), fun _ _ => false, fun i hi => ?_, fun i hi => absurd hi (Nat.not_lt_zero _)⟩, ⟨fun _ => 0, fun _ => 0, fun _ => 256, fun _ => 256, fun j hj => ?_, fun j hj => ?_, ?_⟩, ⟨fun _ => 0, 0, Nat.le_refl _, ?_, fun i hi => absurd hi (Nat.not_lt_zero _), fun i j hi => absurd hi (Nat.not_lt_zero _)⟩, fun m hm => ⟨?_, fun h => by cases h⟩, ⟨fun i hi => absurd hi (Nat.not_lt_zero _), ?_, ?_, ?_⟩, ⟨?_, Nat.zero_le _, fun i hi => absurd hi (Nat.not_lt_zero _), fun _ => 0, ?_, ?_, fun j => Nat.succ_pos _, fun x _ => rfl, rfl⟩, ⟨fun _ => false, ?_⟩, fun _ => false, fun _ => 0, 0, ?_, ?_, ?_, fun j => Nat.succ_pos _, Nat.zero_le _⟩
  · rw [M0z (by omega)]; rfl
  · rw [M0z (by omega)]; rfl
  · rw [M0z (by omega), rows_f]
  · rw [M0z (by omega), M0z (by omega)]; exact ⟨rfl, rfl, Nat.le_of_ble_eq_true rfl, Nat.le_of_ble_eq_true rfl, Nat.le_of_ble_eq_true rfl, Nat.le_of_ble_eq_true rfl⟩
  · rw [M0q (by omega)]
  · exact List.Perm.refl _
  · rw [M0z (by omega)]; rfl
  · rw [M0z (by omega)]; rfl
  · rw [M0t (by omega)]; rfl
  · rw [M0z (by omega)]; rfl
  · rw [M0z (by omega)]
    funext k
    show (0 : Int32) = OF (fun _ => -1) 256 k
    unfold OF
    by_cases hk : k < 60
    · rw [if_pos hk]
      have e : (fun c : Nat => decide ((-1 : Int32) = nI k)) = fun _ => false := by
        funext c
        exact decide_eq_false (fun h => nI_m1 (by omega) h.symm)
      show (0 : Int32) = nI (fb_ct (fun c : Nat => decide ((-1 : Int32) = nI k)) 256)
      rw [e, fb_f]
      rfl
    · rw [if_neg hk]; rfl
  · rw [M01]; rfl
  · rw [M0z (by omega)]; rfl
  · rw [M0z (by omega)]; rfl
  · rw [M0z (by omega), rows_f]
  · rw [M0z (by omega), rows_f]
  · rw [M0z (by omega)]; rfl
  · rw [M0z (by omega)]; rfl
theorem relM_0 : RelM M0 a00 0 := by
  refine ⟨⟨Nat.zero_le _, Nat.zero_le _, ?_, ?_, fun i hi => absurd hi (Nat.not_lt_zero _), fun i hi => absurd hi (Nat.not_lt_zero _), fun i hi => absurd hi (Nat.not_lt_zero _), fun i hi => absurd hi (Nat.not_lt_zero _), ⟨0, Nat.le_refl _, ?_, fun i hi => absurd hi (Nat.not_lt_zero _)⟩, fun _ _ => false, ?_, fun i hi => absurd hi (Nat.not_lt_zero _)⟩, ⟨⟨Nat.zero_le _, fun z hz => by cases hz⟩, ?_, fun j z hz => by cases hz⟩, fun m hm => ⟨?_, fun h => by cases h⟩, ⟨?_, Nat.zero_le _, fun i hi => absurd hi (Nat.not_lt_zero _)⟩, fun _ _ => false, ?_⟩
  · rw [M0z (by omega)]; rfl
  · rw [M0z (by omega)]; rfl
  · rw [M0z (by omega)]; rfl
  · rw [lws_f]; rfl
  · rw [M0z (by omega)]; rfl
  · rw [M0z (by omega)]; rfl
  · rw [M0z (by omega)]; rfl
  · rw [lws_f]; rfl
theorem INV_0 : INV M0 0 := ⟨a00, relB_0, relM_0⟩
theorem bj_jj {Z : Zt} {n0 : Nat} {κ : Nat × Nat} {pc : Nat} {L : List (Option Value)} {st : List Value} (X : BX Z n0) (h : JJ Z κ M0 pc L st) : BJ Z κ 505 (fun j => lc (zE Z) M0 j) pc L st := fun H locs ls a c d => h H locs ls a (bw_D X.1 X.A 505 (fun j => lc (zE Z) M0 j)) c d
theorem bj_istore {Z : Zt} {cc : ByteArray} {Ts : List Cond} {own : String} {rm : Room} {κ : Nat × Nat} {n : Nat} {B : Nat → va_E} {pc : Nat} {L : List (Option Value)} {st : List Value} (F : ZF Z cc Ts own rm) {i : Nat} {x : Int32} (hd : decode cc pc = .ok (.istore i, 2)) (hn : (i : Nat) < zn Z) (k : BJ Z κ n B (pc + 2) (lq_st L i (.int x)) st) : BJ Z κ n B pc L (.int x :: st) := fun H locs ls a c d => lv_istore F.x F.b hd (lq_lv d) hn rfl (fun ls2 h2 => k H locs ls2 a c (lq_store1 h2))
