/-! one sweep over the cells -/
def swp (S : Nat → Bool) (g : Bool) (R : Nat → Bool) : Nat → (Nat → Bool) × Bool
  | 0 => (R, false)
  | i + 1 => if (S i && !(swp S g R i).1 i && tch g (swp S g R i).1 i) = true then ((fun d => (swp S g R i).1 d || d == i), true) else swp S g R i
theorem swp_y {S : Nat → Bool} {g : Bool} {R : Nat → Bool} {i : Nat} (h : (S i && !(swp S g R i).1 i && tch g (swp S g R i).1 i) = true) : swp S g R (i + 1) = ((fun d => (swp S g R i).1 d || d == i), true) := by
  show (if _ then _ else _) = _
  rw [if_pos h]
theorem swp_n {S : Nat → Bool} {g : Bool} {R : Nat → Bool} {i : Nat} (h : (S i && !(swp S g R i).1 i && tch g (swp S g R i).1 i) = false) : swp S g R (i + 1) = swp S g R i := by
  show (if _ then _ else _) = _
  rw [if_neg (by rw [h]; decide)]
def InvR (S : Nat → Bool) (g : Bool) (f : Nat) (R : Nat → Bool) : Prop := R f = true ∧ ∀ x, R x = true → x < 256 ∧ Cmp S g f x
theorem swp_inv {S : Nat → Bool} {g : Bool} {f : Nat} {R : Nat → Bool} (h : InvR S g f R) : ∀ i, i ≤ 256 → InvR S g f (swp S g R i).1
  | 0, _ => h
  | i + 1, hi => by
    have ih := swp_inv h i (by omega)
    cases e : (S i && !(swp S g R i).1 i && tch g (swp S g R i).1 i) with
    | false => rw [swp_n e]; exact ih
    | true =>
      rw [swp_y e]
      simp only [Bool.and_eq_true] at e
      refine ⟨by simp [ih.1], fun x hx => ?_⟩
      simp only [Bool.or_eq_true, beq_iff_eq] at hx
      rcases hx with q | rfl
      · exact ih.2 x q
      · obtain ⟨d, h1, h2⟩ := tch_i.mp e.2
        obtain ⟨hd, hc⟩ := ih.2 d h2
        exact ⟨by omega, Cmp_st hc e.1.1 (nb_sym (by omega) h1).2⟩
theorem swp_sub {S : Nat → Bool} {g : Bool} {R : Nat → Bool} {x : Nat} (h : R x = true) : ∀ i, (swp S g R i).1 x = true
  | 0 => h
  | i + 1 => by
    have ih := swp_sub (S := S) (g := g) h i
    cases e : (S i && !(swp S g R i).1 i && tch g (swp S g R i).1 i) with
    | false => rw [swp_n e]; exact ih
    | true => rw [swp_y e]; simp [ih]
theorem swp_f {S : Nat → Bool} {g : Bool} {R : Nat → Bool} : ∀ i, (swp S g R i).2 = false → (swp S g R i).1 = R ∧ ∀ c, c < i → (S c && !R c && tch g R c) = false
  | 0, _ => ⟨rfl, fun c hc => absurd hc (by omega)⟩
  | i + 1, h => by
    cases e : (S i && !(swp S g R i).1 i && tch g (swp S g R i).1 i) with
    | true => rw [swp_y e] at h; cases h
    | false =>
      rw [swp_n e] at h ⊢
      obtain ⟨a, b⟩ := swp_f i h
      refine ⟨a, fun c hc => ?_⟩
      by_cases q : c = i
      · subst q; rw [a] at e; exact e
      · exact b c (by omega)
theorem swp_t {S : Nat → Bool} {g : Bool} {R : Nat → Bool} : ∀ i, (swp S g R i).2 = true → ∃ c, c < i ∧ R c = false ∧ (swp S g R i).1 c = true
  | 0, h => by cases h
  | i + 1, h => by
    cases e : (S i && !(swp S g R i).1 i && tch g (swp S g R i).1 i) with
    | true =>
      rw [swp_y e]
      simp only [Bool.and_eq_true, Bool.not_eq_true'] at e
      refine ⟨i, by omega, ?_, by simp⟩
      cases q : R i with
      | false => rfl
      | true => rw [swp_sub q i] at e; exact absurd e.1.2 (by decide)
    | false =>
      rw [swp_n e] at h ⊢
      obtain ⟨c, h1, h2, h3⟩ := swp_t i h
      exact ⟨c, by omega, h2, h3⟩
theorem ct_mono {p q : Nat → Bool} (h : ∀ c, p c = true → q c = true) : ∀ n, fb_ct p n ≤ fb_ct q n
  | 0 => Nat.le_refl _
  | n + 1 => by
    have ih := ct_mono h n
    rw [fb_ct_succ, fb_ct_succ]
    cases e : p n with
    | false => simp only [Bool.false_eq_true, if_false]; omega
    | true => rw [h n e]; omega
theorem ct_strict {p q : Nat → Bool} (h : ∀ c, p c = true → q c = true) {c : Nat} (h1 : p c = false) (h2 : q c = true) : ∀ n, c < n → fb_ct p n < fb_ct q n
  | 0, hc => absurd hc (by omega)
  | n + 1, hc => by
    rw [fb_ct_succ, fb_ct_succ]
    by_cases e : c = n
    · subst e
      have := ct_mono h c
      rw [h1, h2]
      simp only [Bool.false_eq_true, if_false, if_true]
      omega
    · have ih := ct_strict h h1 h2 n (by omega)
      cases e2 : p n with
      | false => simp only [Bool.false_eq_true, if_false]; omega
      | true => rw [h n e2]; omega
theorem swp_less {S : Nat → Bool} {g : Bool} {R : Nat → Bool} (h : (swp S g R 256).2 = true) : csz (fun c => !(swp S g R 256).1 c) < csz (fun c => !R c) := by
  obtain ⟨c, h1, h2, h3⟩ := swp_t 256 h
  refine ct_strict (c := c) (fun x hx => ?_) (by simp [h3]) (by simp [h2]) 256 h1
  cases q : R x with
  | false => rfl
  | true => rw [swp_sub q 256] at hx; cases hx
theorem swp_done {S : Nat → Bool} {g : Bool} {f : Nat} {R : Nat → Bool} (hf : f < 256) (hI : InvR S g f R) (h : ∀ c, c < 256 → (S c && !R c && tch g R c) = false) : ∀ x, x < 256 → (R x = true ↔ Cmp S g f x) := fun x hx => by
  refine ⟨fun q => (hI.2 x q).2, fun q => ?_⟩
  have := q (fun y => y < 256 ∧ R y = true) ⟨hf, hI.1⟩ (fun u v hu hv hn => by
    obtain ⟨s1, s2⟩ := nb_sym hu.1 hn
    refine ⟨s1, ?_⟩
    cases e : R v with
    | true => rfl
    | false =>
      have z := h v s1
      rw [hv, e, tch_i.mpr ⟨u, s2, hu.2⟩] at z
      cases z)
  exact this.2
set_option maxRecDepth 100000 in
set_option maxHeartbeats 1000000 in
theorem c_layRegionN {l : Launch} {E : Ee} {M : Mm} {f : Nat} {S : Nat → Bool} (hT : topsOk M) (hf : f < 256) (hS : ∀ c, c < 256 → decide (shF M c = shF M f) = S c) : CtV l E yX9_layRegion (.code yX9_layRegion cX9_layRegion 6 none :: gl) ({ frames := 3, cells := 0, slots := 0, locals := 70 } : Room) M [.ref (E.2.2 478), .int (nI f), .int (-1)] 0 0 (fun M2 => ∃ R : Nat → Bool, M2 = wL M 502 (lwOf R) ∧ ∀ x, x < 256 → (R x = true ↔ Cmp S false f x)) := by
  refine ctV_of (L0 := [some (.ref (E.2.2 478)), some (.int (nI f)), some (.int (-1)), none, none, none]) (by decide) rfl (Nat.le_of_ble_eq_true rfl) rfl ?_
  intro Z hl hE hnl F ret
  subst hE
  have in_X9 : ∀ w ∈ u_ws RX9 TX9 33, w ∈ (.code yX9_layRegion cX9_layRegion 6 none :: gl) := fun w h => List.mem_cons_of_mem _ (lay_X9 w h)
  have g66 : FG Z 66 9 24 := fg_mk F (C := RX9) (T := TX9) (N := 33) in_X9 rfl (by decide) rfl (List.mem_cons_of_mem _ fk_X9_66)
  have g81 : FG Z 81 9 30 := fg_mk F (C := RX9) (T := TX9) (N := 33) in_X9 rfl (by decide) rfl (List.mem_cons_of_mem _ fk_X9_81)
  have kM := kd_M
  have k479 := kd_479
  have k480 := kd_480
  have k481 := kd_481
  have k482 := kd_482
  have k483 := kd_483
  have k484 := kd_484
  have k485 := kd_485
  have k486 := kd_486
  have k487 := kd_487
  have k488 := kd_488
  have k489 := kd_489
  have k490 := kd_490
  have k491 := kd_491
  have k492 := kd_492
  have k493 := kd_493
  have k494 := kd_494
  have k495 := kd_495
  have k496 := kd_496
  have k497 := kd_497
  have k498 := kd_498
  have k499 := kd_499
  have k500 := kd_500
  have k501 := kd_501
  have k502 := kd_502
  have k503 := kd_503
  have out : ∀ m R, csz (fun c => !R c) ≤ m → InvR S false f R → JJ Z (0, 0) (wL M 502 (lwOf R)) 27 [some (.ref ((zE Z).2.2 478)), some (.int (nI f)), some (.int (-1)), some (.int (nI 1)), none, none] [] := by
    intro m
    induction m with
    | zero =>
      intro R hm hI
      have inn : ∀ i, i ≤ 256 → JJ Z (0, 0) (wL M 502 (lwOf (swp S false R i).1)) 36 [some (.ref ((zE Z).2.2 478)), some (.int (nI f)), some (.int (-1)), some (.int (b2i (swp S false R i).2)), some (.int (nI i)), none] [] := by
        refine jj_loop 256 ?_ ?_
        · refine jj_iload F dX9_layRegion_36 rfl ?_
          refine jj_sipush F (v := nI 256) dX9_layRegion_38 (by decide) ?_
          refine jj_icmp_ge F (tgt := 130) dX9_layRegion_41 (by decide) (fun _ => ?_) (fun h9 => absurd (nI_le (by omega) (by omega)) h9)
          refine jj_goto F (tgt := 27) dX9_layRegion_130 (by decide) ?_
          cases hb : (swp S false R 256).2 with
          | true =>
            exact absurd (swp_less hb) (by omega)
          | false =>
            obtain ⟨e1, e2⟩ := swp_f 256 hb
            refine jj_iload_n F dX9_layRegion_27 rfl ?_
            refine jj_if_eq F (tgt := 133) dX9_layRegion_28 (by decide) (fun _ => ?_) (fun h9 => absurd (rfl) h9)
            exact ret _ _ _ dX9_layRegion_133 ⟨_, rfl, by rw [e1]; exact swp_done hf hI e2⟩
        · intro i hi ihi
          have hR9 : (wL M 502 (lwOf (swp S false R i).1)).2 502 = lwOf (swp S false R i).1 := wL_s _ _ _
          have j81 : JJ Z (0, 0) (wL M 502 (lwOf (swp S false R i).1)) 81 [some (.ref ((zE Z).2.2 478)), some (.int (nI f)), some (.int (-1)), some (.int (b2i (swp S false R i).2)), some (.int (nI i)), none] [.int (b2i (S i))] := by
            refine jj_istore F dX9_layRegion_81 (by rw [hnl]; decide) ?_
            dsimp only [lq_st, lq_clr, lq_no]
            refine jj_iload F dX9_layRegion_83 rfl ?_
            refine jj_if_eq F (tgt := 124) dX9_layRegion_85 (by decide) (fun h85 => ?_) (fun h85 => ?_)
            · refine jj_iinc F dX9_layRegion_124 rfl (by first | exact iinc1 _ | rfl) (by rw [hnl]; decide) ?_
              dsimp only [lq_st, lq_clr, lq_no]
              refine jj_goto F (tgt := 36) dX9_layRegion_127 (by decide) ?_
              first
              | (have hs1 := van_f h85; refine jj_less (L2 := [some (.ref ((zE Z).2.2 478)), some (.int (nI f)), some (.int (-1)), some (.int (b2i (swp S false R i).2)), some (.int (nI (i + 1))), none]) (less5 _ _ _ _ _ _) ?_; have hy := swp_n (S := S) (g := false) (R := R) (i := i) (by rw [hs1]; rfl); rw [hy] at ihi; exact ihi)
              | (have hs1 := van_t h94; refine jj_less (L2 := [some (.ref ((zE Z).2.2 478)), some (.int (nI f)), some (.int (-1)), some (.int (b2i (swp S false R i).2)), some (.int (nI (i + 1))), none]) (less5 _ _ _ _ _ _) ?_; have hy := swp_n (S := S) (g := false) (R := R) (i := i) (by rw [hs1, Bool.not_true, Bool.and_false, Bool.false_and]); rw [hy] at ihi; exact ihi)
              | (have hs1 := van_f h113; refine jj_less (L2 := [some (.ref ((zE Z).2.2 478)), some (.int (nI f)), some (.int (-1)), some (.int (b2i (swp S false R i).2)), some (.int (nI (i + 1))), none]) (less5 _ _ _ _ _ _) ?_; have hy := swp_n (S := S) (g := false) (R := R) (i := i) (by rw [hs1, Bool.and_false]); rw [hy] at ihi; exact ihi)
              | (have hs1 := van_t h85; rw [wL_wL]; refine jj_less (L2 := [some (.ref ((zE Z).2.2 478)), some (.int (nI f)), some (.int (-1)), some (.int (nI 1)), some (.int (nI (i + 1))), none]) (less5 _ _ _ _ _ _) ?_; have hy := swp_y (S := S) (g := false) (R := R) (i := i) (by rw [hs1, van_f h94, van_t h113]; rfl); rw [hy] at ihi; exact ihi)
            · refine jj_aload_n F dX9_layRegion_88 rfl ?_
              refine jj_iload F dX9_layRegion_89 rfl ?_
              refine jj_callVi (na := 1) F (c_X9_isInRegion hR9 hi) (gl_V mk_X9_210 vw_X9_isInRegion) rfl rfl rfl (by decide +kernel) ⟨Nat.le_of_ble_eq_true rfl, Nat.le_of_ble_eq_true rfl⟩ kM rfl rfl rfl (Nat.le_of_ble_eq_true rfl) ⟨Nat.le_of_ble_eq_true rfl, Nat.le_of_ble_eq_true rfl⟩ dX9_layRegion_91 (fun r91 M91 hp91 => ?_)
              obtain ⟨rfl, rfl⟩ := symm2 hp91
              refine jj_if_ne F (tgt := 124) dX9_layRegion_94 (by decide) (fun h94 => ?_) (fun h94 => ?_)
              · refine jj_iinc F dX9_layRegion_124 rfl (by first | exact iinc1 _ | rfl) (by rw [hnl]; decide) ?_
                dsimp only [lq_st, lq_clr, lq_no]
                refine jj_goto F (tgt := 36) dX9_layRegion_127 (by decide) ?_
                first
                | (have hs1 := van_f h85; refine jj_less (L2 := [some (.ref ((zE Z).2.2 478)), some (.int (nI f)), some (.int (-1)), some (.int (b2i (swp S false R i).2)), some (.int (nI (i + 1))), none]) (less5 _ _ _ _ _ _) ?_; have hy := swp_n (S := S) (g := false) (R := R) (i := i) (by rw [hs1]; rfl); rw [hy] at ihi; exact ihi)
                | (have hs1 := van_t h94; refine jj_less (L2 := [some (.ref ((zE Z).2.2 478)), some (.int (nI f)), some (.int (-1)), some (.int (b2i (swp S false R i).2)), some (.int (nI (i + 1))), none]) (less5 _ _ _ _ _ _) ?_; have hy := swp_n (S := S) (g := false) (R := R) (i := i) (by rw [hs1, Bool.not_true, Bool.and_false, Bool.false_and]); rw [hy] at ihi; exact ihi)
                | (have hs1 := van_f h113; refine jj_less (L2 := [some (.ref ((zE Z).2.2 478)), some (.int (nI f)), some (.int (-1)), some (.int (b2i (swp S false R i).2)), some (.int (nI (i + 1))), none]) (less5 _ _ _ _ _ _) ?_; have hy := swp_n (S := S) (g := false) (R := R) (i := i) (by rw [hs1, Bool.and_false]); rw [hy] at ihi; exact ihi)
                | (have hs1 := van_t h85; rw [wL_wL]; refine jj_less (L2 := [some (.ref ((zE Z).2.2 478)), some (.int (nI f)), some (.int (-1)), some (.int (nI 1)), some (.int (nI (i + 1))), none]) (less5 _ _ _ _ _ _) ?_; have hy := swp_y (S := S) (g := false) (R := R) (i := i) (by rw [hs1, van_f h94, van_t h113]; rfl); rw [hy] at ihi; exact ihi)
              · refine jj_aload_n F dX9_layRegion_97 rfl ?_
                refine jj_iload F dX9_layRegion_98 rfl ?_
                refine jj_iload_n F dX9_layRegion_100 rfl ?_
                refine jj_iconst F (v := -1) dX9_layRegion_101 (by decide) ?_
                refine jj_icmp_eq F (tgt := 109) dX9_layRegion_102 (by decide) (fun _ => ?_) (fun h9 => absurd (rfl) h9)
                refine jj_iconst F (v := nI 0) dX9_layRegion_109 (by decide) ?_
                refine jj_callVi (na := 2) F (c_X9_isTouched (g := false) hR9 hi) (gl_V mk_X9_219 vw_X9_isTouched) rfl rfl rfl (by decide +kernel) ⟨Nat.le_of_ble_eq_true rfl, Nat.le_of_ble_eq_true rfl⟩ kM rfl rfl rfl (Nat.le_of_ble_eq_true rfl) ⟨Nat.le_of_ble_eq_true rfl, Nat.le_of_ble_eq_true rfl⟩ dX9_layRegion_110 (fun r110 M110 hp110 => ?_)
                obtain ⟨rfl, rfl⟩ := symm2 hp110
                refine jj_if_eq F (tgt := 124) dX9_layRegion_113 (by decide) (fun h113 => ?_) (fun h113 => ?_)
                · refine jj_iinc F dX9_layRegion_124 rfl (by first | exact iinc1 _ | rfl) (by rw [hnl]; decide) ?_
                  dsimp only [lq_st, lq_clr, lq_no]
                  refine jj_goto F (tgt := 36) dX9_layRegion_127 (by decide) ?_
                  first
                  | (have hs1 := van_f h85; refine jj_less (L2 := [some (.ref ((zE Z).2.2 478)), some (.int (nI f)), some (.int (-1)), some (.int (b2i (swp S false R i).2)), some (.int (nI (i + 1))), none]) (less5 _ _ _ _ _ _) ?_; have hy := swp_n (S := S) (g := false) (R := R) (i := i) (by rw [hs1]; rfl); rw [hy] at ihi; exact ihi)
                  | (have hs1 := van_t h94; refine jj_less (L2 := [some (.ref ((zE Z).2.2 478)), some (.int (nI f)), some (.int (-1)), some (.int (b2i (swp S false R i).2)), some (.int (nI (i + 1))), none]) (less5 _ _ _ _ _ _) ?_; have hy := swp_n (S := S) (g := false) (R := R) (i := i) (by rw [hs1, Bool.not_true, Bool.and_false, Bool.false_and]); rw [hy] at ihi; exact ihi)
                  | (have hs1 := van_f h113; refine jj_less (L2 := [some (.ref ((zE Z).2.2 478)), some (.int (nI f)), some (.int (-1)), some (.int (b2i (swp S false R i).2)), some (.int (nI (i + 1))), none]) (less5 _ _ _ _ _ _) ?_; have hy := swp_n (S := S) (g := false) (R := R) (i := i) (by rw [hs1, Bool.and_false]); rw [hy] at ihi; exact ihi)
                  | (have hs1 := van_t h85; rw [wL_wL]; refine jj_less (L2 := [some (.ref ((zE Z).2.2 478)), some (.int (nI f)), some (.int (-1)), some (.int (nI 1)), some (.int (nI (i + 1))), none]) (less5 _ _ _ _ _ _) ?_; have hy := swp_y (S := S) (g := false) (R := R) (i := i) (by rw [hs1, van_f h94, van_t h113]; rfl); rw [hy] at ihi; exact ihi)
                · refine jj_aload_n F dX9_layRegion_116 rfl ?_
                  refine jj_iload F dX9_layRegion_117 rfl ?_
                  refine jj_callVv (na := 1) F (c_X9_put hR9 hi) (gl_V mk_X9_216 vw_X9_put) rfl rfl rfl (by decide +kernel) ⟨Nat.le_of_ble_eq_true rfl, Nat.le_of_ble_eq_true rfl⟩ kM rfl rfl rfl (Nat.le_of_ble_eq_true rfl) ⟨Nat.le_of_ble_eq_true rfl, Nat.le_of_ble_eq_true rfl⟩ dX9_layRegion_119 (fun M119 hp119 => ?_)
                  obtain rfl := hp119.symm
                  refine jj_iconst F (v := nI 1) dX9_layRegion_122 (by decide) ?_
                  refine jj_istore_n F dX9_layRegion_123 (by rw [hnl]; decide) ?_
                  dsimp only [lq_st, lq_clr, lq_no]
                  refine jj_iinc F dX9_layRegion_124 rfl (by first | exact iinc1 _ | rfl) (by rw [hnl]; decide) ?_
                  dsimp only [lq_st, lq_clr, lq_no]
                  refine jj_goto F (tgt := 36) dX9_layRegion_127 (by decide) ?_
                  first
                  | (have hs1 := van_f h85; refine jj_less (L2 := [some (.ref ((zE Z).2.2 478)), some (.int (nI f)), some (.int (-1)), some (.int (b2i (swp S false R i).2)), some (.int (nI (i + 1))), none]) (less5 _ _ _ _ _ _) ?_; have hy := swp_n (S := S) (g := false) (R := R) (i := i) (by rw [hs1]; rfl); rw [hy] at ihi; exact ihi)
                  | (have hs1 := van_t h94; refine jj_less (L2 := [some (.ref ((zE Z).2.2 478)), some (.int (nI f)), some (.int (-1)), some (.int (b2i (swp S false R i).2)), some (.int (nI (i + 1))), none]) (less5 _ _ _ _ _ _) ?_; have hy := swp_n (S := S) (g := false) (R := R) (i := i) (by rw [hs1, Bool.not_true, Bool.and_false, Bool.false_and]); rw [hy] at ihi; exact ihi)
                  | (have hs1 := van_f h113; refine jj_less (L2 := [some (.ref ((zE Z).2.2 478)), some (.int (nI f)), some (.int (-1)), some (.int (b2i (swp S false R i).2)), some (.int (nI (i + 1))), none]) (less5 _ _ _ _ _ _) ?_; have hy := swp_n (S := S) (g := false) (R := R) (i := i) (by rw [hs1, Bool.and_false]); rw [hy] at ihi; exact ihi)
                  | (have hs1 := van_t h85; rw [wL_wL]; refine jj_less (L2 := [some (.ref ((zE Z).2.2 478)), some (.int (nI f)), some (.int (-1)), some (.int (nI 1)), some (.int (nI (i + 1))), none]) (less5 _ _ _ _ _ _) ?_; have hy := swp_y (S := S) (g := false) (R := R) (i := i) (by rw [hs1, van_f h94, van_t h113]; rfl); rw [hy] at ihi; exact ihi)
          refine jj_iload F dX9_layRegion_36 rfl ?_
          refine jj_sipush F (v := nI 256) dX9_layRegion_38 (by decide) ?_
          refine jj_icmp_ge F (tgt := 130) dX9_layRegion_41 (by decide) (fun h9 => absurd h9 (nI_ge (by omega) (by omega))) (fun _ => ?_)
          refine jj_iload_n F dX9_layRegion_44 rfl ?_
          refine jj_iconst F (v := -1) dX9_layRegion_45 (by decide) ?_
          refine jj_icmp_ne F (tgt := 71) dX9_layRegion_46 (by decide) (fun h9 => absurd h9 (fun h9 => h9 rfl)) (fun _ => ?_)
          refine jj_aload_n F dX9_layRegion_49 rfl ?_
          refine jj_iload F dX9_layRegion_50 rfl ?_
          refine jj_callVi (na := 1) F (c_X9_shown (M := (wL M 502 (lwOf (swp S false R i).1))) hT hi) (gl_V mk_X9_132 vw_X9_shown) rfl rfl rfl (by decide +kernel) ⟨Nat.le_of_ble_eq_true rfl, Nat.le_of_ble_eq_true rfl⟩ kM rfl rfl rfl (Nat.le_of_ble_eq_true rfl) ⟨Nat.le_of_ble_eq_true rfl, Nat.le_of_ble_eq_true rfl⟩ dX9_layRegion_52 (fun r52 M52 hp52 => ?_)
          obtain ⟨rfl, rfl⟩ := symm2 hp52
          refine jj_aload_n F dX9_layRegion_55 rfl ?_
          refine jj_iload_n F dX9_layRegion_56 rfl ?_
          refine jj_callVi (na := 1) F (c_X9_shown (M := (wL M 502 (lwOf (swp S false R i).1))) hT hf) (gl_V mk_X9_132 vw_X9_shown) rfl rfl rfl (by decide +kernel) ⟨Nat.le_of_ble_eq_true rfl, Nat.le_of_ble_eq_true rfl⟩ kM rfl rfl rfl (Nat.le_of_ble_eq_true rfl) ⟨Nat.le_of_ble_eq_true rfl, Nat.le_of_ble_eq_true rfl⟩ dX9_layRegion_57 (fun r57 M57 hp57 => ?_)
          obtain ⟨rfl, rfl⟩ := symm2 hp57
          refine jj_icmp_ne F (tgt := 67) dX9_layRegion_60 (by decide) (fun h60 => ?_) (fun h60 => ?_)
          · refine jj_iconst F (v := nI 0) dX9_layRegion_67 (by decide) ?_
            refine jj_goto F (tgt := 81) dX9_layRegion_68 (by decide) ?_
            refine jj_topi ?_ j81
            rw [← hS i hi]
            first
            | (have z : shF M i = shF M f := h60; rw [decide_eq_true z]; rfl)
            | (have z : ¬ shF M i = shF M f := h60; rw [decide_eq_false z]; rfl)
          · refine jj_iconst F (v := nI 1) dX9_layRegion_63 (by decide) ?_
            refine jj_goto F (tgt := 81) dX9_layRegion_64 (by decide) ?_
            refine jj_topi ?_ j81
            rw [← hS i hi]
            first
            | (have z : shF M i = shF M f := h60; rw [decide_eq_true z]; rfl)
            | (have z : ¬ shF M i = shF M f := h60; rw [decide_eq_false z]; rfl)
      refine jj_iload_n F dX9_layRegion_27 rfl ?_
      refine jj_if_eq F (tgt := 133) dX9_layRegion_28 (by decide) (fun h9 => absurd h9 (by decide)) (fun _ => ?_)
      refine jj_iconst F (v := nI 0) dX9_layRegion_31 (by decide) ?_
      refine jj_istore_n F dX9_layRegion_32 (by rw [hnl]; decide) ?_
      dsimp only [lq_st, lq_clr, lq_no]
      refine jj_iconst F (v := nI 0) dX9_layRegion_33 (by decide) ?_
      refine jj_istore F dX9_layRegion_34 (by rw [hnl]; decide) ?_
      dsimp only [lq_st, lq_clr, lq_no]
      exact inn 0 (by omega)
    | succ m ih =>
      intro R hm hI
      have inn : ∀ i, i ≤ 256 → JJ Z (0, 0) (wL M 502 (lwOf (swp S false R i).1)) 36 [some (.ref ((zE Z).2.2 478)), some (.int (nI f)), some (.int (-1)), some (.int (b2i (swp S false R i).2)), some (.int (nI i)), none] [] := by
        refine jj_loop 256 ?_ ?_
        · refine jj_iload F dX9_layRegion_36 rfl ?_
          refine jj_sipush F (v := nI 256) dX9_layRegion_38 (by decide) ?_
          refine jj_icmp_ge F (tgt := 130) dX9_layRegion_41 (by decide) (fun _ => ?_) (fun h9 => absurd (nI_le (by omega) (by omega)) h9)
          refine jj_goto F (tgt := 27) dX9_layRegion_130 (by decide) ?_
          cases hb : (swp S false R 256).2 with
          | true =>
            have := swp_less hb
            refine jj_less (L2 := [some (.ref ((zE Z).2.2 478)), some (.int (nI f)), some (.int (-1)), some (.int (nI 1)), none, none]) ?_ (ih _ (by omega) (swp_inv hI 256 (by omega)))
            exact less4 _ _ _ _ _ _
          | false =>
            obtain ⟨e1, e2⟩ := swp_f 256 hb
            refine jj_iload_n F dX9_layRegion_27 rfl ?_
            refine jj_if_eq F (tgt := 133) dX9_layRegion_28 (by decide) (fun _ => ?_) (fun h9 => absurd (rfl) h9)
            exact ret _ _ _ dX9_layRegion_133 ⟨_, rfl, by rw [e1]; exact swp_done hf hI e2⟩
        · intro i hi ihi
          have hR9 : (wL M 502 (lwOf (swp S false R i).1)).2 502 = lwOf (swp S false R i).1 := wL_s _ _ _
          have j81 : JJ Z (0, 0) (wL M 502 (lwOf (swp S false R i).1)) 81 [some (.ref ((zE Z).2.2 478)), some (.int (nI f)), some (.int (-1)), some (.int (b2i (swp S false R i).2)), some (.int (nI i)), none] [.int (b2i (S i))] := by
            refine jj_istore F dX9_layRegion_81 (by rw [hnl]; decide) ?_
            dsimp only [lq_st, lq_clr, lq_no]
            refine jj_iload F dX9_layRegion_83 rfl ?_
            refine jj_if_eq F (tgt := 124) dX9_layRegion_85 (by decide) (fun h85 => ?_) (fun h85 => ?_)
            · refine jj_iinc F dX9_layRegion_124 rfl (by first | exact iinc1 _ | rfl) (by rw [hnl]; decide) ?_
              dsimp only [lq_st, lq_clr, lq_no]
              refine jj_goto F (tgt := 36) dX9_layRegion_127 (by decide) ?_
              first
              | (have hs1 := van_f h85; refine jj_less (L2 := [some (.ref ((zE Z).2.2 478)), some (.int (nI f)), some (.int (-1)), some (.int (b2i (swp S false R i).2)), some (.int (nI (i + 1))), none]) (less5 _ _ _ _ _ _) ?_; have hy := swp_n (S := S) (g := false) (R := R) (i := i) (by rw [hs1]; rfl); rw [hy] at ihi; exact ihi)
              | (have hs1 := van_t h94; refine jj_less (L2 := [some (.ref ((zE Z).2.2 478)), some (.int (nI f)), some (.int (-1)), some (.int (b2i (swp S false R i).2)), some (.int (nI (i + 1))), none]) (less5 _ _ _ _ _ _) ?_; have hy := swp_n (S := S) (g := false) (R := R) (i := i) (by rw [hs1, Bool.not_true, Bool.and_false, Bool.false_and]); rw [hy] at ihi; exact ihi)
              | (have hs1 := van_f h113; refine jj_less (L2 := [some (.ref ((zE Z).2.2 478)), some (.int (nI f)), some (.int (-1)), some (.int (b2i (swp S false R i).2)), some (.int (nI (i + 1))), none]) (less5 _ _ _ _ _ _) ?_; have hy := swp_n (S := S) (g := false) (R := R) (i := i) (by rw [hs1, Bool.and_false]); rw [hy] at ihi; exact ihi)
              | (have hs1 := van_t h85; rw [wL_wL]; refine jj_less (L2 := [some (.ref ((zE Z).2.2 478)), some (.int (nI f)), some (.int (-1)), some (.int (nI 1)), some (.int (nI (i + 1))), none]) (less5 _ _ _ _ _ _) ?_; have hy := swp_y (S := S) (g := false) (R := R) (i := i) (by rw [hs1, van_f h94, van_t h113]; rfl); rw [hy] at ihi; exact ihi)
            · refine jj_aload_n F dX9_layRegion_88 rfl ?_
              refine jj_iload F dX9_layRegion_89 rfl ?_
              refine jj_callVi (na := 1) F (c_X9_isInRegion hR9 hi) (gl_V mk_X9_210 vw_X9_isInRegion) rfl rfl rfl (by decide +kernel) ⟨Nat.le_of_ble_eq_true rfl, Nat.le_of_ble_eq_true rfl⟩ kM rfl rfl rfl (Nat.le_of_ble_eq_true rfl) ⟨Nat.le_of_ble_eq_true rfl, Nat.le_of_ble_eq_true rfl⟩ dX9_layRegion_91 (fun r91 M91 hp91 => ?_)
              obtain ⟨rfl, rfl⟩ := symm2 hp91
              refine jj_if_ne F (tgt := 124) dX9_layRegion_94 (by decide) (fun h94 => ?_) (fun h94 => ?_)
              · refine jj_iinc F dX9_layRegion_124 rfl (by first | exact iinc1 _ | rfl) (by rw [hnl]; decide) ?_
                dsimp only [lq_st, lq_clr, lq_no]
                refine jj_goto F (tgt := 36) dX9_layRegion_127 (by decide) ?_
                first
                | (have hs1 := van_f h85; refine jj_less (L2 := [some (.ref ((zE Z).2.2 478)), some (.int (nI f)), some (.int (-1)), some (.int (b2i (swp S false R i).2)), some (.int (nI (i + 1))), none]) (less5 _ _ _ _ _ _) ?_; have hy := swp_n (S := S) (g := false) (R := R) (i := i) (by rw [hs1]; rfl); rw [hy] at ihi; exact ihi)
                | (have hs1 := van_t h94; refine jj_less (L2 := [some (.ref ((zE Z).2.2 478)), some (.int (nI f)), some (.int (-1)), some (.int (b2i (swp S false R i).2)), some (.int (nI (i + 1))), none]) (less5 _ _ _ _ _ _) ?_; have hy := swp_n (S := S) (g := false) (R := R) (i := i) (by rw [hs1, Bool.not_true, Bool.and_false, Bool.false_and]); rw [hy] at ihi; exact ihi)
                | (have hs1 := van_f h113; refine jj_less (L2 := [some (.ref ((zE Z).2.2 478)), some (.int (nI f)), some (.int (-1)), some (.int (b2i (swp S false R i).2)), some (.int (nI (i + 1))), none]) (less5 _ _ _ _ _ _) ?_; have hy := swp_n (S := S) (g := false) (R := R) (i := i) (by rw [hs1, Bool.and_false]); rw [hy] at ihi; exact ihi)
                | (have hs1 := van_t h85; rw [wL_wL]; refine jj_less (L2 := [some (.ref ((zE Z).2.2 478)), some (.int (nI f)), some (.int (-1)), some (.int (nI 1)), some (.int (nI (i + 1))), none]) (less5 _ _ _ _ _ _) ?_; have hy := swp_y (S := S) (g := false) (R := R) (i := i) (by rw [hs1, van_f h94, van_t h113]; rfl); rw [hy] at ihi; exact ihi)
              · refine jj_aload_n F dX9_layRegion_97 rfl ?_
                refine jj_iload F dX9_layRegion_98 rfl ?_
                refine jj_iload_n F dX9_layRegion_100 rfl ?_
                refine jj_iconst F (v := -1) dX9_layRegion_101 (by decide) ?_
                refine jj_icmp_eq F (tgt := 109) dX9_layRegion_102 (by decide) (fun _ => ?_) (fun h9 => absurd (rfl) h9)
                refine jj_iconst F (v := nI 0) dX9_layRegion_109 (by decide) ?_
                refine jj_callVi (na := 2) F (c_X9_isTouched (g := false) hR9 hi) (gl_V mk_X9_219 vw_X9_isTouched) rfl rfl rfl (by decide +kernel) ⟨Nat.le_of_ble_eq_true rfl, Nat.le_of_ble_eq_true rfl⟩ kM rfl rfl rfl (Nat.le_of_ble_eq_true rfl) ⟨Nat.le_of_ble_eq_true rfl, Nat.le_of_ble_eq_true rfl⟩ dX9_layRegion_110 (fun r110 M110 hp110 => ?_)
                obtain ⟨rfl, rfl⟩ := symm2 hp110
                refine jj_if_eq F (tgt := 124) dX9_layRegion_113 (by decide) (fun h113 => ?_) (fun h113 => ?_)
                · refine jj_iinc F dX9_layRegion_124 rfl (by first | exact iinc1 _ | rfl) (by rw [hnl]; decide) ?_
                  dsimp only [lq_st, lq_clr, lq_no]
                  refine jj_goto F (tgt := 36) dX9_layRegion_127 (by decide) ?_
                  first
                  | (have hs1 := van_f h85; refine jj_less (L2 := [some (.ref ((zE Z).2.2 478)), some (.int (nI f)), some (.int (-1)), some (.int (b2i (swp S false R i).2)), some (.int (nI (i + 1))), none]) (less5 _ _ _ _ _ _) ?_; have hy := swp_n (S := S) (g := false) (R := R) (i := i) (by rw [hs1]; rfl); rw [hy] at ihi; exact ihi)
                  | (have hs1 := van_t h94; refine jj_less (L2 := [some (.ref ((zE Z).2.2 478)), some (.int (nI f)), some (.int (-1)), some (.int (b2i (swp S false R i).2)), some (.int (nI (i + 1))), none]) (less5 _ _ _ _ _ _) ?_; have hy := swp_n (S := S) (g := false) (R := R) (i := i) (by rw [hs1, Bool.not_true, Bool.and_false, Bool.false_and]); rw [hy] at ihi; exact ihi)
                  | (have hs1 := van_f h113; refine jj_less (L2 := [some (.ref ((zE Z).2.2 478)), some (.int (nI f)), some (.int (-1)), some (.int (b2i (swp S false R i).2)), some (.int (nI (i + 1))), none]) (less5 _ _ _ _ _ _) ?_; have hy := swp_n (S := S) (g := false) (R := R) (i := i) (by rw [hs1, Bool.and_false]); rw [hy] at ihi; exact ihi)
                  | (have hs1 := van_t h85; rw [wL_wL]; refine jj_less (L2 := [some (.ref ((zE Z).2.2 478)), some (.int (nI f)), some (.int (-1)), some (.int (nI 1)), some (.int (nI (i + 1))), none]) (less5 _ _ _ _ _ _) ?_; have hy := swp_y (S := S) (g := false) (R := R) (i := i) (by rw [hs1, van_f h94, van_t h113]; rfl); rw [hy] at ihi; exact ihi)
                · refine jj_aload_n F dX9_layRegion_116 rfl ?_
                  refine jj_iload F dX9_layRegion_117 rfl ?_
                  refine jj_callVv (na := 1) F (c_X9_put hR9 hi) (gl_V mk_X9_216 vw_X9_put) rfl rfl rfl (by decide +kernel) ⟨Nat.le_of_ble_eq_true rfl, Nat.le_of_ble_eq_true rfl⟩ kM rfl rfl rfl (Nat.le_of_ble_eq_true rfl) ⟨Nat.le_of_ble_eq_true rfl, Nat.le_of_ble_eq_true rfl⟩ dX9_layRegion_119 (fun M119 hp119 => ?_)
                  obtain rfl := hp119.symm
                  refine jj_iconst F (v := nI 1) dX9_layRegion_122 (by decide) ?_
                  refine jj_istore_n F dX9_layRegion_123 (by rw [hnl]; decide) ?_
                  dsimp only [lq_st, lq_clr, lq_no]
                  refine jj_iinc F dX9_layRegion_124 rfl (by first | exact iinc1 _ | rfl) (by rw [hnl]; decide) ?_
                  dsimp only [lq_st, lq_clr, lq_no]
                  refine jj_goto F (tgt := 36) dX9_layRegion_127 (by decide) ?_
                  first
                  | (have hs1 := van_f h85; refine jj_less (L2 := [some (.ref ((zE Z).2.2 478)), some (.int (nI f)), some (.int (-1)), some (.int (b2i (swp S false R i).2)), some (.int (nI (i + 1))), none]) (less5 _ _ _ _ _ _) ?_; have hy := swp_n (S := S) (g := false) (R := R) (i := i) (by rw [hs1]; rfl); rw [hy] at ihi; exact ihi)
                  | (have hs1 := van_t h94; refine jj_less (L2 := [some (.ref ((zE Z).2.2 478)), some (.int (nI f)), some (.int (-1)), some (.int (b2i (swp S false R i).2)), some (.int (nI (i + 1))), none]) (less5 _ _ _ _ _ _) ?_; have hy := swp_n (S := S) (g := false) (R := R) (i := i) (by rw [hs1, Bool.not_true, Bool.and_false, Bool.false_and]); rw [hy] at ihi; exact ihi)
                  | (have hs1 := van_f h113; refine jj_less (L2 := [some (.ref ((zE Z).2.2 478)), some (.int (nI f)), some (.int (-1)), some (.int (b2i (swp S false R i).2)), some (.int (nI (i + 1))), none]) (less5 _ _ _ _ _ _) ?_; have hy := swp_n (S := S) (g := false) (R := R) (i := i) (by rw [hs1, Bool.and_false]); rw [hy] at ihi; exact ihi)
                  | (have hs1 := van_t h85; rw [wL_wL]; refine jj_less (L2 := [some (.ref ((zE Z).2.2 478)), some (.int (nI f)), some (.int (-1)), some (.int (nI 1)), some (.int (nI (i + 1))), none]) (less5 _ _ _ _ _ _) ?_; have hy := swp_y (S := S) (g := false) (R := R) (i := i) (by rw [hs1, van_f h94, van_t h113]; rfl); rw [hy] at ihi; exact ihi)
          refine jj_iload F dX9_layRegion_36 rfl ?_
          refine jj_sipush F (v := nI 256) dX9_layRegion_38 (by decide) ?_
          refine jj_icmp_ge F (tgt := 130) dX9_layRegion_41 (by decide) (fun h9 => absurd h9 (nI_ge (by omega) (by omega))) (fun _ => ?_)
          refine jj_iload_n F dX9_layRegion_44 rfl ?_
          refine jj_iconst F (v := -1) dX9_layRegion_45 (by decide) ?_
          refine jj_icmp_ne F (tgt := 71) dX9_layRegion_46 (by decide) (fun h9 => absurd h9 (fun h9 => h9 rfl)) (fun _ => ?_)
          refine jj_aload_n F dX9_layRegion_49 rfl ?_
          refine jj_iload F dX9_layRegion_50 rfl ?_
          refine jj_callVi (na := 1) F (c_X9_shown (M := (wL M 502 (lwOf (swp S false R i).1))) hT hi) (gl_V mk_X9_132 vw_X9_shown) rfl rfl rfl (by decide +kernel) ⟨Nat.le_of_ble_eq_true rfl, Nat.le_of_ble_eq_true rfl⟩ kM rfl rfl rfl (Nat.le_of_ble_eq_true rfl) ⟨Nat.le_of_ble_eq_true rfl, Nat.le_of_ble_eq_true rfl⟩ dX9_layRegion_52 (fun r52 M52 hp52 => ?_)
          obtain ⟨rfl, rfl⟩ := symm2 hp52
          refine jj_aload_n F dX9_layRegion_55 rfl ?_
          refine jj_iload_n F dX9_layRegion_56 rfl ?_
          refine jj_callVi (na := 1) F (c_X9_shown (M := (wL M 502 (lwOf (swp S false R i).1))) hT hf) (gl_V mk_X9_132 vw_X9_shown) rfl rfl rfl (by decide +kernel) ⟨Nat.le_of_ble_eq_true rfl, Nat.le_of_ble_eq_true rfl⟩ kM rfl rfl rfl (Nat.le_of_ble_eq_true rfl) ⟨Nat.le_of_ble_eq_true rfl, Nat.le_of_ble_eq_true rfl⟩ dX9_layRegion_57 (fun r57 M57 hp57 => ?_)
          obtain ⟨rfl, rfl⟩ := symm2 hp57
          refine jj_icmp_ne F (tgt := 67) dX9_layRegion_60 (by decide) (fun h60 => ?_) (fun h60 => ?_)
          · refine jj_iconst F (v := nI 0) dX9_layRegion_67 (by decide) ?_
            refine jj_goto F (tgt := 81) dX9_layRegion_68 (by decide) ?_
            refine jj_topi ?_ j81
            rw [← hS i hi]
            first
            | (have z : shF M i = shF M f := h60; rw [decide_eq_true z]; rfl)
            | (have z : ¬ shF M i = shF M f := h60; rw [decide_eq_false z]; rfl)
          · refine jj_iconst F (v := nI 1) dX9_layRegion_63 (by decide) ?_
            refine jj_goto F (tgt := 81) dX9_layRegion_64 (by decide) ?_
            refine jj_topi ?_ j81
            rw [← hS i hi]
            first
            | (have z : shF M i = shF M f := h60; rw [decide_eq_true z]; rfl)
            | (have z : ¬ shF M i = shF M f := h60; rw [decide_eq_false z]; rfl)
      refine jj_iload_n F dX9_layRegion_27 rfl ?_
      refine jj_if_eq F (tgt := 133) dX9_layRegion_28 (by decide) (fun h9 => absurd h9 (by decide)) (fun _ => ?_)
      refine jj_iconst F (v := nI 0) dX9_layRegion_31 (by decide) ?_
      refine jj_istore_n F dX9_layRegion_32 (by rw [hnl]; decide) ?_
      dsimp only [lq_st, lq_clr, lq_no]
      refine jj_iconst F (v := nI 0) dX9_layRegion_33 (by decide) ?_
      refine jj_istore F dX9_layRegion_34 (by rw [hnl]; decide) ?_
      dsimp only [lq_st, lq_clr, lq_no]
      exact inn 0 (by omega)
  have l0 : ∀ i, i ≤ 4 → JJ Z (0, 0) (wL M 502 (fl i (fun _ => lN 0) (M.2 502))) 2 [some (.ref ((zE Z).2.2 478)), some (.int (nI f)), some (.int (-1)), some (.int (nI i)), none, none] [] := by
    refine jj_loop (4) ?_ ?_
    · refine jj_iload_n F dX9_layRegion_2 rfl ?_
      refine jj_iconst F (v := nI 4) dX9_layRegion_3 (by decide) ?_
      refine jj_icmp_ge F (tgt := 20) dX9_layRegion_4 (by decide) (fun _ => ?_) (fun h9 => absurd (nI_le (by omega) (by omega)) h9)
      refine jj_eqv (meq_flL k502) ?_
      rw [show (fun _ => lN 0) = lwOf (fun _ => false) from funext (fun w => lw_0 w)]
      have hR0 : (wL M 502 (lwOf (fun _ => false))).2 502 = lwOf (fun _ => false) := wL_s _ _ _
      refine jj_aload_n F dX9_layRegion_20 rfl ?_
      refine jj_iload_n F dX9_layRegion_21 rfl ?_
      refine jj_callVv (na := 1) F (c_X9_put hR0 hf) (gl_V mk_X9_216 vw_X9_put) rfl rfl rfl (by decide +kernel) ⟨Nat.le_of_ble_eq_true rfl, Nat.le_of_ble_eq_true rfl⟩ kM rfl rfl rfl (Nat.le_of_ble_eq_true rfl) ⟨Nat.le_of_ble_eq_true rfl, Nat.le_of_ble_eq_true rfl⟩ dX9_layRegion_22 (fun M22 hp22 => ?_)
      obtain rfl := hp22.symm
      refine jj_iconst F (v := nI 1) dX9_layRegion_25 (by decide) ?_
      refine jj_istore_n F dX9_layRegion_26 (by rw [hnl]; decide) ?_
      dsimp only [lq_st, lq_clr, lq_no]
      rw [wL_wL]
      refine out _ _ (Nat.le_refl _) ⟨by simp, fun x hx => ?_⟩
      simp only [Bool.false_or, beq_iff_eq] at hx
      subst hx
      exact ⟨hf, Cmp_rf⟩
    · intro i hi ih
      refine jj_iload_n F dX9_layRegion_2 rfl ?_
      refine jj_iconst F (v := nI 4) dX9_layRegion_3 (by decide) ?_
      refine jj_icmp_ge F (tgt := 20) dX9_layRegion_4 (by decide) (fun h9 => absurd h9 (nI_ge (by omega) (by omega))) (fun _ => ?_)
      refine jj_aload_n F dX9_layRegion_7 rfl ?_
      refine jj_getr F g81 (by assumption) (by rfl) dX9_layRegion_8 ?_
      refine jj_iload_n F dX9_layRegion_11 rfl ?_
      refine jj_lconst F (v := lN 0) dX9_layRegion_12 (by decide) ?_
      refine jj_last F (by assumption) rfl (by omega) dX9_layRegion_13 ?_
      refine jj_iinc F dX9_layRegion_14 rfl (by first | exact iinc1 _ | rfl) (by rw [hnl]; decide) ?_
      dsimp only [lq_st, lq_clr, lq_no]
      refine jj_goto F (tgt := 2) dX9_layRegion_17 (by decide) ?_
      rw [fl_putL rfl]
      exact ih
  refine jj_iconst F (v := nI 0) dX9_layRegion_0 (by decide) ?_
  refine jj_istore_n F dX9_layRegion_1 (by rw [hnl]; decide) ?_
  dsimp only [lq_st, lq_clr, lq_no]
  refine jj_eqM (fl_0L M 502 (fun _ => lN 0)) ?_
  exact l0 0 (by omega)
set_option maxRecDepth 100000 in
set_option maxHeartbeats 1000000 in
theorem c_layRegionK {l : Launch} {E : Ee} {M : Mm} {f k : Nat} {S : Nat → Bool} {L : Nat → Nat → Bool} (hL : M.2 497 = lws L) (hk : k < 60) (hf : f < 256) (hS : ∀ c, c < 256 → L k c = S c) : CtV l E yX9_layRegion (.code yX9_layRegion cX9_layRegion 6 none :: gl) ({ frames := 3, cells := 0, slots := 0, locals := 70 } : Room) M [.ref (E.2.2 478), .int (nI f), .int (nI k)] 0 0 (fun M2 => ∃ R : Nat → Bool, M2 = wL M 502 (lwOf R) ∧ ∀ x, x < 256 → (R x = true ↔ Cmp S true f x)) := by
  refine ctV_of (L0 := [some (.ref (E.2.2 478)), some (.int (nI f)), some (.int (nI k)), none, none, none]) (by decide) rfl (Nat.le_of_ble_eq_true rfl) rfl ?_
  intro Z hl hE hnl F ret
  subst hE
  have in_X9 : ∀ w ∈ u_ws RX9 TX9 33, w ∈ (.code yX9_layRegion cX9_layRegion 6 none :: gl) := fun w h => List.mem_cons_of_mem _ (lay_X9 w h)
  have g66 : FG Z 66 9 24 := fg_mk F (C := RX9) (T := TX9) (N := 33) in_X9 rfl (by decide) rfl (List.mem_cons_of_mem _ fk_X9_66)
  have g81 : FG Z 81 9 30 := fg_mk F (C := RX9) (T := TX9) (N := 33) in_X9 rfl (by decide) rfl (List.mem_cons_of_mem _ fk_X9_81)
  have kM := kd_M
  have k479 := kd_479
  have k480 := kd_480
  have k481 := kd_481
  have k482 := kd_482
  have k483 := kd_483
  have k484 := kd_484
  have k485 := kd_485
  have k486 := kd_486
  have k487 := kd_487
  have k488 := kd_488
  have k489 := kd_489
  have k490 := kd_490
  have k491 := kd_491
  have k492 := kd_492
  have k493 := kd_493
  have k494 := kd_494
  have k495 := kd_495
  have k496 := kd_496
  have k497 := kd_497
  have k498 := kd_498
  have k499 := kd_499
  have k500 := kd_500
  have k501 := kd_501
  have k502 := kd_502
  have k503 := kd_503
  have out : ∀ m R, csz (fun c => !R c) ≤ m → InvR S true f R → JJ Z (0, 0) (wL M 502 (lwOf R)) 27 [some (.ref ((zE Z).2.2 478)), some (.int (nI f)), some (.int (nI k)), some (.int (nI 1)), none, none] [] := by
    intro m
    induction m with
    | zero =>
      intro R hm hI
      have inn : ∀ i, i ≤ 256 → JJ Z (0, 0) (wL M 502 (lwOf (swp S true R i).1)) 36 [some (.ref ((zE Z).2.2 478)), some (.int (nI f)), some (.int (nI k)), some (.int (b2i (swp S true R i).2)), some (.int (nI i)), none] [] := by
        refine jj_loop 256 ?_ ?_
        · refine jj_iload F dX9_layRegion_36 rfl ?_
          refine jj_sipush F (v := nI 256) dX9_layRegion_38 (by decide) ?_
          refine jj_icmp_ge F (tgt := 130) dX9_layRegion_41 (by decide) (fun _ => ?_) (fun h9 => absurd (nI_le (by omega) (by omega)) h9)
          refine jj_goto F (tgt := 27) dX9_layRegion_130 (by decide) ?_
          cases hb : (swp S true R 256).2 with
          | true =>
            exact absurd (swp_less hb) (by omega)
          | false =>
            obtain ⟨e1, e2⟩ := swp_f 256 hb
            refine jj_iload_n F dX9_layRegion_27 rfl ?_
            refine jj_if_eq F (tgt := 133) dX9_layRegion_28 (by decide) (fun _ => ?_) (fun h9 => absurd (rfl) h9)
            exact ret _ _ _ dX9_layRegion_133 ⟨_, rfl, by rw [e1]; exact swp_done hf hI e2⟩
        · intro i hi ihi
          have hR9 : (wL M 502 (lwOf (swp S true R i).1)).2 502 = lwOf (swp S true R i).1 := wL_s _ _ _
          have j81 : JJ Z (0, 0) (wL M 502 (lwOf (swp S true R i).1)) 81 [some (.ref ((zE Z).2.2 478)), some (.int (nI f)), some (.int (nI k)), some (.int (b2i (swp S true R i).2)), some (.int (nI i)), none] [.int (b2i (S i))] := by
            refine jj_istore F dX9_layRegion_81 (by rw [hnl]; decide) ?_
            dsimp only [lq_st, lq_clr, lq_no]
            refine jj_iload F dX9_layRegion_83 rfl ?_
            refine jj_if_eq F (tgt := 124) dX9_layRegion_85 (by decide) (fun h85 => ?_) (fun h85 => ?_)
            · refine jj_iinc F dX9_layRegion_124 rfl (by first | exact iinc1 _ | rfl) (by rw [hnl]; decide) ?_
              dsimp only [lq_st, lq_clr, lq_no]
              refine jj_goto F (tgt := 36) dX9_layRegion_127 (by decide) ?_
              first
              | (have hs1 := van_f h85; refine jj_less (L2 := [some (.ref ((zE Z).2.2 478)), some (.int (nI f)), some (.int (nI k)), some (.int (b2i (swp S true R i).2)), some (.int (nI (i + 1))), none]) (less5 _ _ _ _ _ _) ?_; have hy := swp_n (S := S) (g := true) (R := R) (i := i) (by rw [hs1]; rfl); rw [hy] at ihi; exact ihi)
              | (have hs1 := van_t h94; refine jj_less (L2 := [some (.ref ((zE Z).2.2 478)), some (.int (nI f)), some (.int (nI k)), some (.int (b2i (swp S true R i).2)), some (.int (nI (i + 1))), none]) (less5 _ _ _ _ _ _) ?_; have hy := swp_n (S := S) (g := true) (R := R) (i := i) (by rw [hs1, Bool.not_true, Bool.and_false, Bool.false_and]); rw [hy] at ihi; exact ihi)
              | (have hs1 := van_f h113; refine jj_less (L2 := [some (.ref ((zE Z).2.2 478)), some (.int (nI f)), some (.int (nI k)), some (.int (b2i (swp S true R i).2)), some (.int (nI (i + 1))), none]) (less5 _ _ _ _ _ _) ?_; have hy := swp_n (S := S) (g := true) (R := R) (i := i) (by rw [hs1, Bool.and_false]); rw [hy] at ihi; exact ihi)
              | (have hs1 := van_t h85; rw [wL_wL]; refine jj_less (L2 := [some (.ref ((zE Z).2.2 478)), some (.int (nI f)), some (.int (nI k)), some (.int (nI 1)), some (.int (nI (i + 1))), none]) (less5 _ _ _ _ _ _) ?_; have hy := swp_y (S := S) (g := true) (R := R) (i := i) (by rw [hs1, van_f h94, van_t h113]; rfl); rw [hy] at ihi; exact ihi)
            · refine jj_aload_n F dX9_layRegion_88 rfl ?_
              refine jj_iload F dX9_layRegion_89 rfl ?_
              refine jj_callVi (na := 1) F (c_X9_isInRegion hR9 hi) (gl_V mk_X9_210 vw_X9_isInRegion) rfl rfl rfl (by decide +kernel) ⟨Nat.le_of_ble_eq_true rfl, Nat.le_of_ble_eq_true rfl⟩ kM rfl rfl rfl (Nat.le_of_ble_eq_true rfl) ⟨Nat.le_of_ble_eq_true rfl, Nat.le_of_ble_eq_true rfl⟩ dX9_layRegion_91 (fun r91 M91 hp91 => ?_)
              obtain ⟨rfl, rfl⟩ := symm2 hp91
              refine jj_if_ne F (tgt := 124) dX9_layRegion_94 (by decide) (fun h94 => ?_) (fun h94 => ?_)
              · refine jj_iinc F dX9_layRegion_124 rfl (by first | exact iinc1 _ | rfl) (by rw [hnl]; decide) ?_
                dsimp only [lq_st, lq_clr, lq_no]
                refine jj_goto F (tgt := 36) dX9_layRegion_127 (by decide) ?_
                first
                | (have hs1 := van_f h85; refine jj_less (L2 := [some (.ref ((zE Z).2.2 478)), some (.int (nI f)), some (.int (nI k)), some (.int (b2i (swp S true R i).2)), some (.int (nI (i + 1))), none]) (less5 _ _ _ _ _ _) ?_; have hy := swp_n (S := S) (g := true) (R := R) (i := i) (by rw [hs1]; rfl); rw [hy] at ihi; exact ihi)
                | (have hs1 := van_t h94; refine jj_less (L2 := [some (.ref ((zE Z).2.2 478)), some (.int (nI f)), some (.int (nI k)), some (.int (b2i (swp S true R i).2)), some (.int (nI (i + 1))), none]) (less5 _ _ _ _ _ _) ?_; have hy := swp_n (S := S) (g := true) (R := R) (i := i) (by rw [hs1, Bool.not_true, Bool.and_false, Bool.false_and]); rw [hy] at ihi; exact ihi)
                | (have hs1 := van_f h113; refine jj_less (L2 := [some (.ref ((zE Z).2.2 478)), some (.int (nI f)), some (.int (nI k)), some (.int (b2i (swp S true R i).2)), some (.int (nI (i + 1))), none]) (less5 _ _ _ _ _ _) ?_; have hy := swp_n (S := S) (g := true) (R := R) (i := i) (by rw [hs1, Bool.and_false]); rw [hy] at ihi; exact ihi)
                | (have hs1 := van_t h85; rw [wL_wL]; refine jj_less (L2 := [some (.ref ((zE Z).2.2 478)), some (.int (nI f)), some (.int (nI k)), some (.int (nI 1)), some (.int (nI (i + 1))), none]) (less5 _ _ _ _ _ _) ?_; have hy := swp_y (S := S) (g := true) (R := R) (i := i) (by rw [hs1, van_f h94, van_t h113]; rfl); rw [hy] at ihi; exact ihi)
              · refine jj_aload_n F dX9_layRegion_97 rfl ?_
                refine jj_iload F dX9_layRegion_98 rfl ?_
                refine jj_iload_n F dX9_layRegion_100 rfl ?_
                refine jj_iconst F (v := -1) dX9_layRegion_101 (by decide) ?_
                refine jj_icmp_eq F (tgt := 109) dX9_layRegion_102 (by decide) (fun h9 => absurd h9 (nI_m1 (by omega))) (fun _ => ?_)
                refine jj_iconst F (v := nI 1) dX9_layRegion_105 (by decide) ?_
                refine jj_goto F (tgt := 110) dX9_layRegion_106 (by decide) ?_
                refine jj_callVi (na := 2) F (c_X9_isTouched (g := true) hR9 hi) (gl_V mk_X9_219 vw_X9_isTouched) rfl rfl rfl (by decide +kernel) ⟨Nat.le_of_ble_eq_true rfl, Nat.le_of_ble_eq_true rfl⟩ kM rfl rfl rfl (Nat.le_of_ble_eq_true rfl) ⟨Nat.le_of_ble_eq_true rfl, Nat.le_of_ble_eq_true rfl⟩ dX9_layRegion_110 (fun r110 M110 hp110 => ?_)
                obtain ⟨rfl, rfl⟩ := symm2 hp110
                refine jj_if_eq F (tgt := 124) dX9_layRegion_113 (by decide) (fun h113 => ?_) (fun h113 => ?_)
                · refine jj_iinc F dX9_layRegion_124 rfl (by first | exact iinc1 _ | rfl) (by rw [hnl]; decide) ?_
                  dsimp only [lq_st, lq_clr, lq_no]
                  refine jj_goto F (tgt := 36) dX9_layRegion_127 (by decide) ?_
                  first
                  | (have hs1 := van_f h85; refine jj_less (L2 := [some (.ref ((zE Z).2.2 478)), some (.int (nI f)), some (.int (nI k)), some (.int (b2i (swp S true R i).2)), some (.int (nI (i + 1))), none]) (less5 _ _ _ _ _ _) ?_; have hy := swp_n (S := S) (g := true) (R := R) (i := i) (by rw [hs1]; rfl); rw [hy] at ihi; exact ihi)
                  | (have hs1 := van_t h94; refine jj_less (L2 := [some (.ref ((zE Z).2.2 478)), some (.int (nI f)), some (.int (nI k)), some (.int (b2i (swp S true R i).2)), some (.int (nI (i + 1))), none]) (less5 _ _ _ _ _ _) ?_; have hy := swp_n (S := S) (g := true) (R := R) (i := i) (by rw [hs1, Bool.not_true, Bool.and_false, Bool.false_and]); rw [hy] at ihi; exact ihi)
                  | (have hs1 := van_f h113; refine jj_less (L2 := [some (.ref ((zE Z).2.2 478)), some (.int (nI f)), some (.int (nI k)), some (.int (b2i (swp S true R i).2)), some (.int (nI (i + 1))), none]) (less5 _ _ _ _ _ _) ?_; have hy := swp_n (S := S) (g := true) (R := R) (i := i) (by rw [hs1, Bool.and_false]); rw [hy] at ihi; exact ihi)
                  | (have hs1 := van_t h85; rw [wL_wL]; refine jj_less (L2 := [some (.ref ((zE Z).2.2 478)), some (.int (nI f)), some (.int (nI k)), some (.int (nI 1)), some (.int (nI (i + 1))), none]) (less5 _ _ _ _ _ _) ?_; have hy := swp_y (S := S) (g := true) (R := R) (i := i) (by rw [hs1, van_f h94, van_t h113]; rfl); rw [hy] at ihi; exact ihi)
                · refine jj_aload_n F dX9_layRegion_116 rfl ?_
                  refine jj_iload F dX9_layRegion_117 rfl ?_
                  refine jj_callVv (na := 1) F (c_X9_put hR9 hi) (gl_V mk_X9_216 vw_X9_put) rfl rfl rfl (by decide +kernel) ⟨Nat.le_of_ble_eq_true rfl, Nat.le_of_ble_eq_true rfl⟩ kM rfl rfl rfl (Nat.le_of_ble_eq_true rfl) ⟨Nat.le_of_ble_eq_true rfl, Nat.le_of_ble_eq_true rfl⟩ dX9_layRegion_119 (fun M119 hp119 => ?_)
                  obtain rfl := hp119.symm
                  refine jj_iconst F (v := nI 1) dX9_layRegion_122 (by decide) ?_
                  refine jj_istore_n F dX9_layRegion_123 (by rw [hnl]; decide) ?_
                  dsimp only [lq_st, lq_clr, lq_no]
                  refine jj_iinc F dX9_layRegion_124 rfl (by first | exact iinc1 _ | rfl) (by rw [hnl]; decide) ?_
                  dsimp only [lq_st, lq_clr, lq_no]
                  refine jj_goto F (tgt := 36) dX9_layRegion_127 (by decide) ?_
                  first
                  | (have hs1 := van_f h85; refine jj_less (L2 := [some (.ref ((zE Z).2.2 478)), some (.int (nI f)), some (.int (nI k)), some (.int (b2i (swp S true R i).2)), some (.int (nI (i + 1))), none]) (less5 _ _ _ _ _ _) ?_; have hy := swp_n (S := S) (g := true) (R := R) (i := i) (by rw [hs1]; rfl); rw [hy] at ihi; exact ihi)
                  | (have hs1 := van_t h94; refine jj_less (L2 := [some (.ref ((zE Z).2.2 478)), some (.int (nI f)), some (.int (nI k)), some (.int (b2i (swp S true R i).2)), some (.int (nI (i + 1))), none]) (less5 _ _ _ _ _ _) ?_; have hy := swp_n (S := S) (g := true) (R := R) (i := i) (by rw [hs1, Bool.not_true, Bool.and_false, Bool.false_and]); rw [hy] at ihi; exact ihi)
                  | (have hs1 := van_f h113; refine jj_less (L2 := [some (.ref ((zE Z).2.2 478)), some (.int (nI f)), some (.int (nI k)), some (.int (b2i (swp S true R i).2)), some (.int (nI (i + 1))), none]) (less5 _ _ _ _ _ _) ?_; have hy := swp_n (S := S) (g := true) (R := R) (i := i) (by rw [hs1, Bool.and_false]); rw [hy] at ihi; exact ihi)
                  | (have hs1 := van_t h85; rw [wL_wL]; refine jj_less (L2 := [some (.ref ((zE Z).2.2 478)), some (.int (nI f)), some (.int (nI k)), some (.int (nI 1)), some (.int (nI (i + 1))), none]) (less5 _ _ _ _ _ _) ?_; have hy := swp_y (S := S) (g := true) (R := R) (i := i) (by rw [hs1, van_f h94, van_t h113]; rfl); rw [hy] at ihi; exact ihi)
          refine jj_iload F dX9_layRegion_36 rfl ?_
          refine jj_sipush F (v := nI 256) dX9_layRegion_38 (by decide) ?_
          refine jj_icmp_ge F (tgt := 130) dX9_layRegion_41 (by decide) (fun h9 => absurd h9 (nI_ge (by omega) (by omega))) (fun _ => ?_)
          refine jj_iload_n F dX9_layRegion_44 rfl ?_
          refine jj_iconst F (v := -1) dX9_layRegion_45 (by decide) ?_
          refine jj_icmp_ne F (tgt := 71) dX9_layRegion_46 (by decide) (fun _ => ?_) (fun h9 => absurd h9 (nI_m1 (by omega)))
          refine jj_aload_n F dX9_layRegion_71 rfl ?_
          refine jj_getr F g66 (by assumption) (by rfl) dX9_layRegion_72 ?_
          refine jj_iload_n F dX9_layRegion_75 rfl ?_
          refine jj_iload F dX9_layRegion_76 rfl ?_
          refine jj_callSi (na := 3) F (c_X9_hasIn k497 (by rw [wL_n (by decide)]; exact hL) (by omega) hi) (gl_S mk_X9_115 vw_X9_hasIn) rfl rfl rfl (by decide +kernel) ⟨Nat.le_of_ble_eq_true rfl, Nat.le_of_ble_eq_true rfl⟩ rfl rfl (Nat.le_of_ble_eq_true rfl) ⟨Nat.le_of_ble_eq_true rfl, Nat.le_of_ble_eq_true rfl⟩ dX9_layRegion_78 (fun r78 M78 hp78 => ?_)
          obtain ⟨rfl, rfl⟩ := symm2 hp78
          refine jj_topi ?_ j81
          rw [← hS i hi]
      refine jj_iload_n F dX9_layRegion_27 rfl ?_
      refine jj_if_eq F (tgt := 133) dX9_layRegion_28 (by decide) (fun h9 => absurd h9 (by decide)) (fun _ => ?_)
      refine jj_iconst F (v := nI 0) dX9_layRegion_31 (by decide) ?_
      refine jj_istore_n F dX9_layRegion_32 (by rw [hnl]; decide) ?_
      dsimp only [lq_st, lq_clr, lq_no]
      refine jj_iconst F (v := nI 0) dX9_layRegion_33 (by decide) ?_
      refine jj_istore F dX9_layRegion_34 (by rw [hnl]; decide) ?_
      dsimp only [lq_st, lq_clr, lq_no]
      exact inn 0 (by omega)
    | succ m ih =>
      intro R hm hI
      have inn : ∀ i, i ≤ 256 → JJ Z (0, 0) (wL M 502 (lwOf (swp S true R i).1)) 36 [some (.ref ((zE Z).2.2 478)), some (.int (nI f)), some (.int (nI k)), some (.int (b2i (swp S true R i).2)), some (.int (nI i)), none] [] := by
        refine jj_loop 256 ?_ ?_
        · refine jj_iload F dX9_layRegion_36 rfl ?_
          refine jj_sipush F (v := nI 256) dX9_layRegion_38 (by decide) ?_
          refine jj_icmp_ge F (tgt := 130) dX9_layRegion_41 (by decide) (fun _ => ?_) (fun h9 => absurd (nI_le (by omega) (by omega)) h9)
          refine jj_goto F (tgt := 27) dX9_layRegion_130 (by decide) ?_
          cases hb : (swp S true R 256).2 with
          | true =>
            have := swp_less hb
            refine jj_less (L2 := [some (.ref ((zE Z).2.2 478)), some (.int (nI f)), some (.int (nI k)), some (.int (nI 1)), none, none]) ?_ (ih _ (by omega) (swp_inv hI 256 (by omega)))
            exact less4 _ _ _ _ _ _
          | false =>
            obtain ⟨e1, e2⟩ := swp_f 256 hb
            refine jj_iload_n F dX9_layRegion_27 rfl ?_
            refine jj_if_eq F (tgt := 133) dX9_layRegion_28 (by decide) (fun _ => ?_) (fun h9 => absurd (rfl) h9)
            exact ret _ _ _ dX9_layRegion_133 ⟨_, rfl, by rw [e1]; exact swp_done hf hI e2⟩
        · intro i hi ihi
          have hR9 : (wL M 502 (lwOf (swp S true R i).1)).2 502 = lwOf (swp S true R i).1 := wL_s _ _ _
          have j81 : JJ Z (0, 0) (wL M 502 (lwOf (swp S true R i).1)) 81 [some (.ref ((zE Z).2.2 478)), some (.int (nI f)), some (.int (nI k)), some (.int (b2i (swp S true R i).2)), some (.int (nI i)), none] [.int (b2i (S i))] := by
            refine jj_istore F dX9_layRegion_81 (by rw [hnl]; decide) ?_
            dsimp only [lq_st, lq_clr, lq_no]
            refine jj_iload F dX9_layRegion_83 rfl ?_
            refine jj_if_eq F (tgt := 124) dX9_layRegion_85 (by decide) (fun h85 => ?_) (fun h85 => ?_)
            · refine jj_iinc F dX9_layRegion_124 rfl (by first | exact iinc1 _ | rfl) (by rw [hnl]; decide) ?_
              dsimp only [lq_st, lq_clr, lq_no]
              refine jj_goto F (tgt := 36) dX9_layRegion_127 (by decide) ?_
              first
              | (have hs1 := van_f h85; refine jj_less (L2 := [some (.ref ((zE Z).2.2 478)), some (.int (nI f)), some (.int (nI k)), some (.int (b2i (swp S true R i).2)), some (.int (nI (i + 1))), none]) (less5 _ _ _ _ _ _) ?_; have hy := swp_n (S := S) (g := true) (R := R) (i := i) (by rw [hs1]; rfl); rw [hy] at ihi; exact ihi)
              | (have hs1 := van_t h94; refine jj_less (L2 := [some (.ref ((zE Z).2.2 478)), some (.int (nI f)), some (.int (nI k)), some (.int (b2i (swp S true R i).2)), some (.int (nI (i + 1))), none]) (less5 _ _ _ _ _ _) ?_; have hy := swp_n (S := S) (g := true) (R := R) (i := i) (by rw [hs1, Bool.not_true, Bool.and_false, Bool.false_and]); rw [hy] at ihi; exact ihi)
              | (have hs1 := van_f h113; refine jj_less (L2 := [some (.ref ((zE Z).2.2 478)), some (.int (nI f)), some (.int (nI k)), some (.int (b2i (swp S true R i).2)), some (.int (nI (i + 1))), none]) (less5 _ _ _ _ _ _) ?_; have hy := swp_n (S := S) (g := true) (R := R) (i := i) (by rw [hs1, Bool.and_false]); rw [hy] at ihi; exact ihi)
              | (have hs1 := van_t h85; rw [wL_wL]; refine jj_less (L2 := [some (.ref ((zE Z).2.2 478)), some (.int (nI f)), some (.int (nI k)), some (.int (nI 1)), some (.int (nI (i + 1))), none]) (less5 _ _ _ _ _ _) ?_; have hy := swp_y (S := S) (g := true) (R := R) (i := i) (by rw [hs1, van_f h94, van_t h113]; rfl); rw [hy] at ihi; exact ihi)
            · refine jj_aload_n F dX9_layRegion_88 rfl ?_
              refine jj_iload F dX9_layRegion_89 rfl ?_
              refine jj_callVi (na := 1) F (c_X9_isInRegion hR9 hi) (gl_V mk_X9_210 vw_X9_isInRegion) rfl rfl rfl (by decide +kernel) ⟨Nat.le_of_ble_eq_true rfl, Nat.le_of_ble_eq_true rfl⟩ kM rfl rfl rfl (Nat.le_of_ble_eq_true rfl) ⟨Nat.le_of_ble_eq_true rfl, Nat.le_of_ble_eq_true rfl⟩ dX9_layRegion_91 (fun r91 M91 hp91 => ?_)
              obtain ⟨rfl, rfl⟩ := symm2 hp91
              refine jj_if_ne F (tgt := 124) dX9_layRegion_94 (by decide) (fun h94 => ?_) (fun h94 => ?_)
              · refine jj_iinc F dX9_layRegion_124 rfl (by first | exact iinc1 _ | rfl) (by rw [hnl]; decide) ?_
                dsimp only [lq_st, lq_clr, lq_no]
                refine jj_goto F (tgt := 36) dX9_layRegion_127 (by decide) ?_
                first
                | (have hs1 := van_f h85; refine jj_less (L2 := [some (.ref ((zE Z).2.2 478)), some (.int (nI f)), some (.int (nI k)), some (.int (b2i (swp S true R i).2)), some (.int (nI (i + 1))), none]) (less5 _ _ _ _ _ _) ?_; have hy := swp_n (S := S) (g := true) (R := R) (i := i) (by rw [hs1]; rfl); rw [hy] at ihi; exact ihi)
                | (have hs1 := van_t h94; refine jj_less (L2 := [some (.ref ((zE Z).2.2 478)), some (.int (nI f)), some (.int (nI k)), some (.int (b2i (swp S true R i).2)), some (.int (nI (i + 1))), none]) (less5 _ _ _ _ _ _) ?_; have hy := swp_n (S := S) (g := true) (R := R) (i := i) (by rw [hs1, Bool.not_true, Bool.and_false, Bool.false_and]); rw [hy] at ihi; exact ihi)
                | (have hs1 := van_f h113; refine jj_less (L2 := [some (.ref ((zE Z).2.2 478)), some (.int (nI f)), some (.int (nI k)), some (.int (b2i (swp S true R i).2)), some (.int (nI (i + 1))), none]) (less5 _ _ _ _ _ _) ?_; have hy := swp_n (S := S) (g := true) (R := R) (i := i) (by rw [hs1, Bool.and_false]); rw [hy] at ihi; exact ihi)
                | (have hs1 := van_t h85; rw [wL_wL]; refine jj_less (L2 := [some (.ref ((zE Z).2.2 478)), some (.int (nI f)), some (.int (nI k)), some (.int (nI 1)), some (.int (nI (i + 1))), none]) (less5 _ _ _ _ _ _) ?_; have hy := swp_y (S := S) (g := true) (R := R) (i := i) (by rw [hs1, van_f h94, van_t h113]; rfl); rw [hy] at ihi; exact ihi)
              · refine jj_aload_n F dX9_layRegion_97 rfl ?_
                refine jj_iload F dX9_layRegion_98 rfl ?_
                refine jj_iload_n F dX9_layRegion_100 rfl ?_
                refine jj_iconst F (v := -1) dX9_layRegion_101 (by decide) ?_
                refine jj_icmp_eq F (tgt := 109) dX9_layRegion_102 (by decide) (fun h9 => absurd h9 (nI_m1 (by omega))) (fun _ => ?_)
                refine jj_iconst F (v := nI 1) dX9_layRegion_105 (by decide) ?_
                refine jj_goto F (tgt := 110) dX9_layRegion_106 (by decide) ?_
                refine jj_callVi (na := 2) F (c_X9_isTouched (g := true) hR9 hi) (gl_V mk_X9_219 vw_X9_isTouched) rfl rfl rfl (by decide +kernel) ⟨Nat.le_of_ble_eq_true rfl, Nat.le_of_ble_eq_true rfl⟩ kM rfl rfl rfl (Nat.le_of_ble_eq_true rfl) ⟨Nat.le_of_ble_eq_true rfl, Nat.le_of_ble_eq_true rfl⟩ dX9_layRegion_110 (fun r110 M110 hp110 => ?_)
                obtain ⟨rfl, rfl⟩ := symm2 hp110
                refine jj_if_eq F (tgt := 124) dX9_layRegion_113 (by decide) (fun h113 => ?_) (fun h113 => ?_)
                · refine jj_iinc F dX9_layRegion_124 rfl (by first | exact iinc1 _ | rfl) (by rw [hnl]; decide) ?_
                  dsimp only [lq_st, lq_clr, lq_no]
                  refine jj_goto F (tgt := 36) dX9_layRegion_127 (by decide) ?_
                  first
                  | (have hs1 := van_f h85; refine jj_less (L2 := [some (.ref ((zE Z).2.2 478)), some (.int (nI f)), some (.int (nI k)), some (.int (b2i (swp S true R i).2)), some (.int (nI (i + 1))), none]) (less5 _ _ _ _ _ _) ?_; have hy := swp_n (S := S) (g := true) (R := R) (i := i) (by rw [hs1]; rfl); rw [hy] at ihi; exact ihi)
                  | (have hs1 := van_t h94; refine jj_less (L2 := [some (.ref ((zE Z).2.2 478)), some (.int (nI f)), some (.int (nI k)), some (.int (b2i (swp S true R i).2)), some (.int (nI (i + 1))), none]) (less5 _ _ _ _ _ _) ?_; have hy := swp_n (S := S) (g := true) (R := R) (i := i) (by rw [hs1, Bool.not_true, Bool.and_false, Bool.false_and]); rw [hy] at ihi; exact ihi)
                  | (have hs1 := van_f h113; refine jj_less (L2 := [some (.ref ((zE Z).2.2 478)), some (.int (nI f)), some (.int (nI k)), some (.int (b2i (swp S true R i).2)), some (.int (nI (i + 1))), none]) (less5 _ _ _ _ _ _) ?_; have hy := swp_n (S := S) (g := true) (R := R) (i := i) (by rw [hs1, Bool.and_false]); rw [hy] at ihi; exact ihi)
                  | (have hs1 := van_t h85; rw [wL_wL]; refine jj_less (L2 := [some (.ref ((zE Z).2.2 478)), some (.int (nI f)), some (.int (nI k)), some (.int (nI 1)), some (.int (nI (i + 1))), none]) (less5 _ _ _ _ _ _) ?_; have hy := swp_y (S := S) (g := true) (R := R) (i := i) (by rw [hs1, van_f h94, van_t h113]; rfl); rw [hy] at ihi; exact ihi)
                · refine jj_aload_n F dX9_layRegion_116 rfl ?_
                  refine jj_iload F dX9_layRegion_117 rfl ?_
                  refine jj_callVv (na := 1) F (c_X9_put hR9 hi) (gl_V mk_X9_216 vw_X9_put) rfl rfl rfl (by decide +kernel) ⟨Nat.le_of_ble_eq_true rfl, Nat.le_of_ble_eq_true rfl⟩ kM rfl rfl rfl (Nat.le_of_ble_eq_true rfl) ⟨Nat.le_of_ble_eq_true rfl, Nat.le_of_ble_eq_true rfl⟩ dX9_layRegion_119 (fun M119 hp119 => ?_)
                  obtain rfl := hp119.symm
                  refine jj_iconst F (v := nI 1) dX9_layRegion_122 (by decide) ?_
                  refine jj_istore_n F dX9_layRegion_123 (by rw [hnl]; decide) ?_
                  dsimp only [lq_st, lq_clr, lq_no]
                  refine jj_iinc F dX9_layRegion_124 rfl (by first | exact iinc1 _ | rfl) (by rw [hnl]; decide) ?_
                  dsimp only [lq_st, lq_clr, lq_no]
                  refine jj_goto F (tgt := 36) dX9_layRegion_127 (by decide) ?_
                  first
                  | (have hs1 := van_f h85; refine jj_less (L2 := [some (.ref ((zE Z).2.2 478)), some (.int (nI f)), some (.int (nI k)), some (.int (b2i (swp S true R i).2)), some (.int (nI (i + 1))), none]) (less5 _ _ _ _ _ _) ?_; have hy := swp_n (S := S) (g := true) (R := R) (i := i) (by rw [hs1]; rfl); rw [hy] at ihi; exact ihi)
                  | (have hs1 := van_t h94; refine jj_less (L2 := [some (.ref ((zE Z).2.2 478)), some (.int (nI f)), some (.int (nI k)), some (.int (b2i (swp S true R i).2)), some (.int (nI (i + 1))), none]) (less5 _ _ _ _ _ _) ?_; have hy := swp_n (S := S) (g := true) (R := R) (i := i) (by rw [hs1, Bool.not_true, Bool.and_false, Bool.false_and]); rw [hy] at ihi; exact ihi)
                  | (have hs1 := van_f h113; refine jj_less (L2 := [some (.ref ((zE Z).2.2 478)), some (.int (nI f)), some (.int (nI k)), some (.int (b2i (swp S true R i).2)), some (.int (nI (i + 1))), none]) (less5 _ _ _ _ _ _) ?_; have hy := swp_n (S := S) (g := true) (R := R) (i := i) (by rw [hs1, Bool.and_false]); rw [hy] at ihi; exact ihi)
                  | (have hs1 := van_t h85; rw [wL_wL]; refine jj_less (L2 := [some (.ref ((zE Z).2.2 478)), some (.int (nI f)), some (.int (nI k)), some (.int (nI 1)), some (.int (nI (i + 1))), none]) (less5 _ _ _ _ _ _) ?_; have hy := swp_y (S := S) (g := true) (R := R) (i := i) (by rw [hs1, van_f h94, van_t h113]; rfl); rw [hy] at ihi; exact ihi)
          refine jj_iload F dX9_layRegion_36 rfl ?_
          refine jj_sipush F (v := nI 256) dX9_layRegion_38 (by decide) ?_
          refine jj_icmp_ge F (tgt := 130) dX9_layRegion_41 (by decide) (fun h9 => absurd h9 (nI_ge (by omega) (by omega))) (fun _ => ?_)
          refine jj_iload_n F dX9_layRegion_44 rfl ?_
          refine jj_iconst F (v := -1) dX9_layRegion_45 (by decide) ?_
          refine jj_icmp_ne F (tgt := 71) dX9_layRegion_46 (by decide) (fun _ => ?_) (fun h9 => absurd h9 (nI_m1 (by omega)))
          refine jj_aload_n F dX9_layRegion_71 rfl ?_
          refine jj_getr F g66 (by assumption) (by rfl) dX9_layRegion_72 ?_
          refine jj_iload_n F dX9_layRegion_75 rfl ?_
          refine jj_iload F dX9_layRegion_76 rfl ?_
          refine jj_callSi (na := 3) F (c_X9_hasIn k497 (by rw [wL_n (by decide)]; exact hL) (by omega) hi) (gl_S mk_X9_115 vw_X9_hasIn) rfl rfl rfl (by decide +kernel) ⟨Nat.le_of_ble_eq_true rfl, Nat.le_of_ble_eq_true rfl⟩ rfl rfl (Nat.le_of_ble_eq_true rfl) ⟨Nat.le_of_ble_eq_true rfl, Nat.le_of_ble_eq_true rfl⟩ dX9_layRegion_78 (fun r78 M78 hp78 => ?_)
          obtain ⟨rfl, rfl⟩ := symm2 hp78
          refine jj_topi ?_ j81
          rw [← hS i hi]
      refine jj_iload_n F dX9_layRegion_27 rfl ?_
      refine jj_if_eq F (tgt := 133) dX9_layRegion_28 (by decide) (fun h9 => absurd h9 (by decide)) (fun _ => ?_)
      refine jj_iconst F (v := nI 0) dX9_layRegion_31 (by decide) ?_
      refine jj_istore_n F dX9_layRegion_32 (by rw [hnl]; decide) ?_
      dsimp only [lq_st, lq_clr, lq_no]
      refine jj_iconst F (v := nI 0) dX9_layRegion_33 (by decide) ?_
      refine jj_istore F dX9_layRegion_34 (by rw [hnl]; decide) ?_
      dsimp only [lq_st, lq_clr, lq_no]
      exact inn 0 (by omega)
  have l0 : ∀ i, i ≤ 4 → JJ Z (0, 0) (wL M 502 (fl i (fun _ => lN 0) (M.2 502))) 2 [some (.ref ((zE Z).2.2 478)), some (.int (nI f)), some (.int (nI k)), some (.int (nI i)), none, none] [] := by
    refine jj_loop (4) ?_ ?_
    · refine jj_iload_n F dX9_layRegion_2 rfl ?_
      refine jj_iconst F (v := nI 4) dX9_layRegion_3 (by decide) ?_
      refine jj_icmp_ge F (tgt := 20) dX9_layRegion_4 (by decide) (fun _ => ?_) (fun h9 => absurd (nI_le (by omega) (by omega)) h9)
      refine jj_eqv (meq_flL k502) ?_
      rw [show (fun _ => lN 0) = lwOf (fun _ => false) from funext (fun w => lw_0 w)]
      have hR0 : (wL M 502 (lwOf (fun _ => false))).2 502 = lwOf (fun _ => false) := wL_s _ _ _
      refine jj_aload_n F dX9_layRegion_20 rfl ?_
      refine jj_iload_n F dX9_layRegion_21 rfl ?_
      refine jj_callVv (na := 1) F (c_X9_put hR0 hf) (gl_V mk_X9_216 vw_X9_put) rfl rfl rfl (by decide +kernel) ⟨Nat.le_of_ble_eq_true rfl, Nat.le_of_ble_eq_true rfl⟩ kM rfl rfl rfl (Nat.le_of_ble_eq_true rfl) ⟨Nat.le_of_ble_eq_true rfl, Nat.le_of_ble_eq_true rfl⟩ dX9_layRegion_22 (fun M22 hp22 => ?_)
      obtain rfl := hp22.symm
      refine jj_iconst F (v := nI 1) dX9_layRegion_25 (by decide) ?_
      refine jj_istore_n F dX9_layRegion_26 (by rw [hnl]; decide) ?_
      dsimp only [lq_st, lq_clr, lq_no]
      rw [wL_wL]
      refine out _ _ (Nat.le_refl _) ⟨by simp, fun x hx => ?_⟩
      simp only [Bool.false_or, beq_iff_eq] at hx
      subst hx
      exact ⟨hf, Cmp_rf⟩
    · intro i hi ih
      refine jj_iload_n F dX9_layRegion_2 rfl ?_
      refine jj_iconst F (v := nI 4) dX9_layRegion_3 (by decide) ?_
      refine jj_icmp_ge F (tgt := 20) dX9_layRegion_4 (by decide) (fun h9 => absurd h9 (nI_ge (by omega) (by omega))) (fun _ => ?_)
      refine jj_aload_n F dX9_layRegion_7 rfl ?_
      refine jj_getr F g81 (by assumption) (by rfl) dX9_layRegion_8 ?_
      refine jj_iload_n F dX9_layRegion_11 rfl ?_
      refine jj_lconst F (v := lN 0) dX9_layRegion_12 (by decide) ?_
      refine jj_last F (by assumption) rfl (by omega) dX9_layRegion_13 ?_
      refine jj_iinc F dX9_layRegion_14 rfl (by first | exact iinc1 _ | rfl) (by rw [hnl]; decide) ?_
      dsimp only [lq_st, lq_clr, lq_no]
      refine jj_goto F (tgt := 2) dX9_layRegion_17 (by decide) ?_
      rw [fl_putL rfl]
      exact ih
  refine jj_iconst F (v := nI 0) dX9_layRegion_0 (by decide) ?_
  refine jj_istore_n F dX9_layRegion_1 (by rw [hnl]; decide) ?_
  dsimp only [lq_st, lq_clr, lq_no]
  refine jj_eqM (fl_0L M 502 (fun _ => lN 0)) ?_
  exact l0 0 (by omega)
set_option maxRecDepth 100000 in
set_option maxHeartbeats 1000000 in
theorem c_X9_meetRegion {l : Launch} {E : Ee} {M : Mm} {B R : Nat → Bool} (hR : M.2 502 = lwOf R) (hB : ∀ c, c < 256 → M.1 503 c = b2i (B c)) : CtV l E yX9_meetRegion (.code yX9_meetRegion cX9_meetRegion 2 none :: gl) ({ frames := 1, cells := 0, slots := 0, locals := 21 } : Room) M [.ref (E.2.2 478)] 0 0 (fun M2 => M2 = wA M 503 (fun c => b2i (B c || R c))) := by
  refine ctV_of (L0 := [some (.ref (E.2.2 478)), none]) (by decide) rfl (Nat.le_of_ble_eq_true rfl) rfl ?_
  intro Z hl hE hnl F ret
  subst hE
  have in_X9 : ∀ w ∈ u_ws RX9 TX9 33, w ∈ (.code yX9_meetRegion cX9_meetRegion 2 none :: gl) := fun w h => List.mem_cons_of_mem _ (lay_X9 w h)
  have g84 : FG Z 84 9 31 := fg_mk F (C := RX9) (T := TX9) (N := 33) in_X9 rfl (by decide) rfl (List.mem_cons_of_mem _ fk_X9_84)
  have kM := kd_M
  have k479 := kd_479
  have k480 := kd_480
  have k481 := kd_481
  have k482 := kd_482
  have k483 := kd_483
  have k484 := kd_484
  have k485 := kd_485
  have k486 := kd_486
  have k487 := kd_487
  have k488 := kd_488
  have k489 := kd_489
  have k490 := kd_490
  have k491 := kd_491
  have k492 := kd_492
  have k493 := kd_493
  have k494 := kd_494
  have k495 := kd_495
  have k496 := kd_496
  have k497 := kd_497
  have k498 := kd_498
  have k499 := kd_499
  have k500 := kd_500
  have k501 := kd_501
  have k502 := kd_502
  have k503 := kd_503
  have lo : ∀ i, i ≤ 256 → JJ Z (0, 0) (wA M 503 (fl i (fun c => b2i (B c || R c)) (M.1 503))) 2 [some (.ref ((zE Z).2.2 478)), some (.int (nI i))] [] := by
    refine jj_loop (256) ?_ ?_
    · refine jj_iload_n F dX9_meetRegion_2 rfl ?_
      refine jj_sipush F (v := nI 256) dX9_meetRegion_3 (by decide) ?_
      refine jj_icmp_ge F (tgt := 43) dX9_meetRegion_6 (by decide) (fun _ => ?_) (fun h9 => absurd (nI_le (by omega) (by omega)) h9)
      refine jj_eqv (meq_fl k503) ?_
      exact ret _ _ _ dX9_meetRegion_43 rfl
    · intro i hi ih
      have hb9 : (wA M 503 (fl i (fun c => b2i (B c || R c)) (M.1 503))).1 503 i = b2i (B i) := by rw [wA_1s, fl_out (by omega)]; exact hB i hi
      refine jj_iload_n F dX9_meetRegion_2 rfl ?_
      refine jj_sipush F (v := nI 256) dX9_meetRegion_3 (by decide) ?_
      refine jj_icmp_ge F (tgt := 43) dX9_meetRegion_6 (by decide) (fun h9 => absurd h9 (nI_ge (by omega) (by omega))) (fun _ => ?_)
      refine jj_aload_n F dX9_meetRegion_9 rfl ?_
      refine jj_getr F g84 (by assumption) (by rfl) dX9_meetRegion_10 ?_
      refine jj_iload_n F dX9_meetRegion_13 rfl ?_
      refine jj_aload_n F dX9_meetRegion_14 rfl ?_
      refine jj_getr F g84 (by assumption) (by rfl) dX9_meetRegion_15 ?_
      refine jj_iload_n F dX9_meetRegion_18 rfl ?_
      refine jj_zald F (by assumption) rfl (by omega) dX9_meetRegion_19 ?_
      rw [hb9]
      refine jj_if_ne F (tgt := 31) dX9_meetRegion_20 (by decide) (fun h20 => ?_) (fun h20 => ?_)
      · refine jj_iconst F (v := nI 1) dX9_meetRegion_31 (by decide) ?_
        refine jj_goto F (tgt := 36) dX9_meetRegion_32 (by decide) ?_
        refine jj_zast F (by assumption) rfl (by omega) (by first | exact Or.inl rfl | exact Or.inr rfl | exact b2i_01 _ | assumption) dX9_meetRegion_36 ?_
        refine jj_iinc F dX9_meetRegion_37 rfl (by first | exact iinc1 _ | rfl) (by rw [hnl]; decide) ?_
        dsimp only [lq_st, lq_clr, lq_no]
        refine jj_goto F (tgt := 2) dX9_meetRegion_40 (by decide) ?_
        rw [fl_put ?_]
        · exact ih
        · first
          | (have z := van_t h20; rw [z]; rfl)
          | (have z := van_t h28; rw [z, Bool.or_true]; rfl)
          | (have z := van_f h28; rw [z, van_f h20]; rfl)
      · refine jj_aload_n F dX9_meetRegion_23 rfl ?_
        refine jj_iload_n F dX9_meetRegion_24 rfl ?_
        refine jj_callVi (na := 1) F (c_X9_isInRegion (M := wA M 503 (fl i (fun c => b2i (B c || R c)) (M.1 503))) hR hi) (gl_V mk_X9_210 vw_X9_isInRegion) rfl rfl rfl (by decide +kernel) ⟨Nat.le_of_ble_eq_true rfl, Nat.le_of_ble_eq_true rfl⟩ kM rfl rfl rfl (Nat.le_of_ble_eq_true rfl) ⟨Nat.le_of_ble_eq_true rfl, Nat.le_of_ble_eq_true rfl⟩ dX9_meetRegion_25 (fun r25 M25 hp25 => ?_)
        obtain ⟨rfl, rfl⟩ := symm2 hp25
        refine jj_if_eq F (tgt := 35) dX9_meetRegion_28 (by decide) (fun h28 => ?_) (fun h28 => ?_)
        · refine jj_iconst F (v := nI 0) dX9_meetRegion_35 (by decide) ?_
          refine jj_zast F (by assumption) rfl (by omega) (by first | exact Or.inl rfl | exact Or.inr rfl | exact b2i_01 _ | assumption) dX9_meetRegion_36 ?_
          refine jj_iinc F dX9_meetRegion_37 rfl (by first | exact iinc1 _ | rfl) (by rw [hnl]; decide) ?_
          dsimp only [lq_st, lq_clr, lq_no]
          refine jj_goto F (tgt := 2) dX9_meetRegion_40 (by decide) ?_
          rw [fl_put ?_]
          · exact ih
          · first
            | (have z := van_t h20; rw [z]; rfl)
            | (have z := van_t h28; rw [z, Bool.or_true]; rfl)
            | (have z := van_f h28; rw [z, van_f h20]; rfl)
        · refine jj_iconst F (v := nI 1) dX9_meetRegion_31 (by decide) ?_
          refine jj_goto F (tgt := 36) dX9_meetRegion_32 (by decide) ?_
          refine jj_zast F (by assumption) rfl (by omega) (by first | exact Or.inl rfl | exact Or.inr rfl | exact b2i_01 _ | assumption) dX9_meetRegion_36 ?_
          refine jj_iinc F dX9_meetRegion_37 rfl (by first | exact iinc1 _ | rfl) (by rw [hnl]; decide) ?_
          dsimp only [lq_st, lq_clr, lq_no]
          refine jj_goto F (tgt := 2) dX9_meetRegion_40 (by decide) ?_
          rw [fl_put ?_]
          · exact ih
          · first
            | (have z := van_t h20; rw [z]; rfl)
            | (have z := van_t h28; rw [z, Bool.or_true]; rfl)
            | (have z := van_f h28; rw [z, van_f h20]; rfl)
  refine jj_iconst F (v := nI 0) dX9_meetRegion_0 (by decide) ?_
  refine jj_istore_n F dX9_meetRegion_1 (by rw [hnl]; decide) ?_
  dsimp only [lq_st, lq_clr, lq_no]
  refine jj_eqM (fl_0 M 503 (fun c => b2i (B c || R c))) ?_
  exact lo 0 (by omega)
/-- y is the first of its kind -/
noncomputable def frB (V : Nat → Bool) (E : Nat → Nat → Prop) (y : Nat) : Bool := @decide (∀ z, z < y → V z = true → ¬ E z y) (Classical.propDecidable _)
theorem frB_t {V : Nat → Bool} {E : Nat → Nat → Prop} {y : Nat} : frB V E y = true ↔ ∀ z, z < y → V z = true → ¬ E z y := by
  unfold frB
  rw [@decide_eq_true_iff _ (Classical.propDecidable _)]
def Qp (V : Nat → Bool) (E : Nat → Nat → Prop) (i : Nat) (B : Nat → Bool) : Prop := ∀ x, x < 256 → (B x = false ↔ (V x = true ∧ ∀ z, z < i → V z = true → ¬ E z x))
theorem Qp_0 {V : Nat → Bool} {E : Nat → Nat → Prop} : Qp V E 0 (fun c => !V c) := fun x _ => by
  constructor
  · intro h; exact ⟨by simpa using h, fun z hz => absurd hz (by omega)⟩
  · intro h; simp [h.1]
theorem Qp_y {V : Nat → Bool} {E : Nat → Nat → Prop} {i : Nat} {B R : Nat → Bool} (hi : i < 256) (hQ : Qp V E i B) (hb : B i = false) (hR : ∀ x, x < 256 → (R x = true ↔ E i x)) : Qp V E (i + 1) (fun c => B c || R c) ∧ (V i && frB V E i) = true := by
  have h0 := (hQ i hi).mp hb
  refine ⟨fun x hx => ?_, by rw [h0.1, frB_t.mpr h0.2]; rfl⟩
  constructor
  · intro h
    obtain ⟨q1, q2⟩ := Bool.or_eq_false_iff.mp h
    obtain ⟨p1, p2⟩ := (hQ x hx).mp q1
    refine ⟨p1, fun z hz hv => ?_⟩
    by_cases e : z = i
    · subst e
      intro he
      rw [(hR x hx).mpr he] at q2
      cases q2
    · exact p2 z (by omega) hv
  · rintro ⟨p1, p2⟩
    refine Bool.or_eq_false_iff.mpr ⟨(hQ x hx).mpr ⟨p1, fun z hz => p2 z (by omega)⟩, ?_⟩
    cases e : R x with
    | false => rfl
    | true => exact absurd ((hR x hx).mp e) (p2 i (by omega) h0.1)
theorem Qp_n {V : Nat → Bool} {E : Nat → Nat → Prop} {i : Nat} {B : Nat → Bool} (hi : i < 256) (hQ : Qp V E i B) (hb : B i = true) (htr : ∀ z y x, z < 256 → y < 256 → x < 256 → V z = true → E z y → E y x → E z x) : Qp V E (i + 1) B ∧ (V i && frB V E i) = false := by
  have h0 : ¬ (V i = true ∧ ∀ z, z < i → V z = true → ¬ E z i) := fun h => by
    rw [(hQ i hi).mpr h] at hb
    cases hb
  refine ⟨fun x hx => ?_, ?_⟩
  · rw [hQ x hx]
    refine ⟨fun ⟨p1, p2⟩ => ⟨p1, fun z hz hv he => ?_⟩, fun ⟨p1, p2⟩ => ⟨p1, fun z hz => p2 z (by omega)⟩⟩
    by_cases e : z = i
    · subst e
      exact h0 ⟨hv, fun w hw hvw hew => p2 w hw hvw (htr w z x (by omega) hi hx hvw hew he)⟩
    · exact p2 z (by omega) hv he
  · cases e : V i with
    | false => rfl
    | true =>
      cases e2 : frB V E i with
      | false => rfl
      | true => exact absurd ⟨e, frB_t.mp e2⟩ h0
theorem wLA_x (M : Mm) (ρ σ : Nat → Int64) (f g : Nat → Int32) : wA (wL (wA (wL M 502 ρ) 503 f) 502 σ) 503 g = wA (wL M 502 σ) 503 g := by
  refine mm_ext (fun a => ?_) ?_
  · by_cases h : a = 503
    · subst h; rw [wA_s, wA_s]
    · rw [wA_n h, wA_n h, wL_1, wA_n h, wL_1, wL_1]
  · funext a
    rw [wA_2, wA_2]
    by_cases h : a = 502
    · subst h; rw [wL_s, wL_s]
    · rw [wL_n h, wL_n h, wA_2, wL_n h]
set_option maxRecDepth 100000 in
set_option maxHeartbeats 1000000 in
theorem c_partsN {l : Launch} {E : Ee} {M : Mm} (hT : topsOk M) : CtI l E yX9_parts (.code yX9_parts cX9_parts 4 (some .int) :: gl) ({ frames := 4, cells := 0, slots := 0, locals := 95 } : Room) M [.ref (E.2.2 478), .int (-1)] 0 0 (fun r M2 => r = nI (fb_ct (fun y => (fun _ => true) y && frB (fun _ => true) (fun z x => Cmp (fun d => decide (shF M d = shF M z)) false z x) y) 256) ∧ ∃ (ρ : Nat → Int64) (B : Nat → Bool), M2 = wA (wL M 502 ρ) 503 (fun c => b2i (B c))) := by
  refine ctI_of (L0 := [some (.ref (E.2.2 478)), some (.int (-1)), none, none]) (by decide) rfl (Nat.le_of_ble_eq_true rfl) rfl ?_
  intro Z hl hE hnl F ret
  subst hE
  have in_X9 : ∀ w ∈ u_ws RX9 TX9 33, w ∈ (.code yX9_parts cX9_parts 4 (some .int) :: gl) := fun w h => List.mem_cons_of_mem _ (lay_X9 w h)
  have g66 : FG Z 66 9 24 := fg_mk F (C := RX9) (T := TX9) (N := 33) in_X9 rfl (by decide) rfl (List.mem_cons_of_mem _ fk_X9_66)
  have g84 : FG Z 84 9 31 := fg_mk F (C := RX9) (T := TX9) (N := 33) in_X9 rfl (by decide) rfl (List.mem_cons_of_mem _ fk_X9_84)
  have kM := kd_M
  have k479 := kd_479
  have k480 := kd_480
  have k481 := kd_481
  have k482 := kd_482
  have k483 := kd_483
  have k484 := kd_484
  have k485 := kd_485
  have k486 := kd_486
  have k487 := kd_487
  have k488 := kd_488
  have k489 := kd_489
  have k490 := kd_490
  have k491 := kd_491
  have k492 := kd_492
  have k493 := kd_493
  have k494 := kd_494
  have k495 := kd_495
  have k496 := kd_496
  have k497 := kd_497
  have k498 := kd_498
  have k499 := kd_499
  have k500 := kd_500
  have k501 := kd_501
  have k502 := kd_502
  have k503 := kd_503
  have htr : ∀ z y x, z < 256 → y < 256 → x < 256 → (fun _ => true) z = true → (fun z x => Cmp (fun d => decide (shF M d = shF M z)) false z x) z y → (fun z x => Cmp (fun d => decide (shF M d = shF M z)) false z x) y x → (fun z x => Cmp (fun d => decide (shF M d = shF M z)) false z x) z x := by
    intro z y x hz hy hx _ h1 h2
    have e : shF M y = shF M z := of_decide_eq_true (Cmp_S (decide_eq_true rfl) h1)
    exact Cmp_tr h1 (by simp only [e] at h2; exact h2)
  have lo : ∀ i, i ≤ 256 → ∀ (ρ : Nat → Int64) (B : Nat → Bool), Qp (fun _ => true) (fun z x => Cmp (fun d => decide (shF M d = shF M z)) false z x) i B → JJ Z (0, 0) (wA (wL M 502 ρ) 503 (fun c => b2i (B c))) 47 [some (.ref ((zE Z).2.2 478)), some (.int (-1)), some (.int (nI (fb_ct (fun y => (fun _ => true) y && frB (fun _ => true) (fun z x => Cmp (fun d => decide (shF M d = shF M z)) false z x) y) i))), some (.int (nI i))] [] := by
    refine jj_loop 256 ?_ ?_
    · intro ρ B hQ
      refine jj_iload_n F dX9_parts_47 rfl ?_
      refine jj_sipush F (v := nI 256) dX9_parts_48 (by decide) ?_
      refine jj_icmp_ge F (tgt := 82) dX9_parts_51 (by decide) (fun _ => ?_) (fun h9 => absurd (nI_le (by omega) (by omega)) h9)
      refine jj_iload_n F dX9_parts_82 rfl ?_
      refine ret _ _ _ _ dX9_parts_83 (by first | rfl | exact nar_z (by first | exact Or.inl rfl | exact Or.inr rfl | exact b2i_01 _ | assumption)) ?_
      exact ⟨rfl, ρ, B, rfl⟩
    · intro i hi ih ρ B hQ
      have hb9 : (wA (wL M 502 ρ) 503 (fun c => b2i (B c))).1 503 i = b2i (B i) := by rw [wA_1s]
      have hRR : ∀ R : Nat → Bool, (wL (wA (wL M 502 ρ) 503 (fun c => b2i (B c))) 502 (lwOf R)).2 502 = lwOf R := fun R => wL_s _ _ _
      refine jj_iload_n F dX9_parts_47 rfl ?_
      refine jj_sipush F (v := nI 256) dX9_parts_48 (by decide) ?_
      refine jj_icmp_ge F (tgt := 82) dX9_parts_51 (by decide) (fun h9 => absurd h9 (nI_ge (by omega) (by omega))) (fun _ => ?_)
      refine jj_aload_n F dX9_parts_54 rfl ?_
      refine jj_getr F g84 (by assumption) (by rfl) dX9_parts_55 ?_
      refine jj_iload_n F dX9_parts_58 rfl ?_
      refine jj_zald F (by assumption) rfl (by omega) dX9_parts_59 ?_
      rw [hb9]
      refine jj_if_ne F (tgt := 76) dX9_parts_60 (by decide) (fun h60 => ?_) (fun h60 => ?_)
      · refine jj_iinc F dX9_parts_76 rfl (by first | exact iinc1 _ | rfl) (by rw [hnl]; decide) ?_
        dsimp only [lq_st, lq_clr, lq_no]
        refine jj_goto F (tgt := 47) dX9_parts_79 (by decide) ?_
        first
        | (have z := van_f h60; obtain ⟨q1, q2⟩ := Qp_y hi hQ z hR9; have hz := ih (lwOf R9) _ q1; rw [fb_ct_succ, q2] at hz; exact jj_eqM (wLA_x _ _ _ _ _) hz)
        | (have z := van_t h60; obtain ⟨q1, q2⟩ := Qp_n hi hQ z htr; have hz := ih ρ B q1; rw [fb_ct_succ, q2] at hz; exact hz)
      · refine jj_aload_n F dX9_parts_63 rfl ?_
        refine jj_iload_n F dX9_parts_64 rfl ?_
        refine jj_iload_n F dX9_parts_65 rfl ?_
        refine jj_callVv (na := 2) F (c_layRegionN (M := (wA (wL M 502 ρ) 503 (fun c => b2i (B c)))) (S := fun d => decide (shF M d = shF M i)) hT hi (fun c _ => rfl)) (gl_V mk_X9_226 vw_X9_layRegion) rfl rfl rfl (by decide +kernel) ⟨Nat.le_of_ble_eq_true rfl, Nat.le_of_ble_eq_true rfl⟩ kM rfl rfl rfl (Nat.le_of_ble_eq_true rfl) ⟨Nat.le_of_ble_eq_true rfl, Nat.le_of_ble_eq_true rfl⟩ dX9_parts_66 (fun M66 hp66 => ?_)
        obtain ⟨R9, rfl, hR9⟩ := hp66
        refine jj_aload_n F dX9_parts_69 rfl ?_
        refine jj_callVv (na := 0) F (c_X9_meetRegion (B := B) (hRR R9) (fun c hc => by rw [wL_1, wA_1s])) (gl_V mk_X9_259 vw_X9_meetRegion) rfl rfl rfl (by decide +kernel) ⟨Nat.le_of_ble_eq_true rfl, Nat.le_of_ble_eq_true rfl⟩ kM rfl rfl rfl (Nat.le_of_ble_eq_true rfl) ⟨Nat.le_of_ble_eq_true rfl, Nat.le_of_ble_eq_true rfl⟩ dX9_parts_70 (fun M70 hp70 => ?_)
        obtain rfl := hp70.symm
        refine jj_iinc F dX9_parts_73 rfl (by first | exact iinc1 _ | rfl) (by rw [hnl]; decide) ?_
        dsimp only [lq_st, lq_clr, lq_no]
        refine jj_iinc F dX9_parts_76 rfl (by first | exact iinc1 _ | rfl) (by rw [hnl]; decide) ?_
        dsimp only [lq_st, lq_clr, lq_no]
        refine jj_goto F (tgt := 47) dX9_parts_79 (by decide) ?_
        first
        | (have z := van_f h60; obtain ⟨q1, q2⟩ := Qp_y hi hQ z hR9; have hz := ih (lwOf R9) _ q1; rw [fb_ct_succ, q2] at hz; exact jj_eqM (wLA_x _ _ _ _ _) hz)
        | (have z := van_t h60; obtain ⟨q1, q2⟩ := Qp_n hi hQ z htr; have hz := ih ρ B q1; rw [fb_ct_succ, q2] at hz; exact hz)
  have l0 : ∀ i, i ≤ 256 → JJ Z (0, 0) (wA M 503 (fl i (fun c => b2i (!(fun _ => true) c)) (M.1 503))) 4 [some (.ref ((zE Z).2.2 478)), some (.int (-1)), some (.int (nI 0)), some (.int (nI i))] [] := by
    refine jj_loop (256) ?_ ?_
    · refine jj_iload_n F dX9_parts_4 rfl ?_
      refine jj_sipush F (v := nI 256) dX9_parts_5 (by decide) ?_
      refine jj_icmp_ge F (tgt := 45) dX9_parts_8 (by decide) (fun _ => ?_) (fun h9 => absurd (nI_le (by omega) (by omega)) h9)
      refine jj_iconst F (v := nI 0) dX9_parts_45 (by decide) ?_
      refine jj_istore_n F dX9_parts_46 (by rw [hnl]; decide) ?_
      dsimp only [lq_st, lq_clr, lq_no]
      refine jj_eqv (meq_fl k503) ?_
      refine jj_eqM ?_ (lo 0 (by omega) (M.2 502) _ Qp_0)
      rw [wL_same]
    · intro i hi ih
      refine jj_iload_n F dX9_parts_4 rfl ?_
      refine jj_sipush F (v := nI 256) dX9_parts_5 (by decide) ?_
      refine jj_icmp_ge F (tgt := 45) dX9_parts_8 (by decide) (fun h9 => absurd h9 (nI_ge (by omega) (by omega))) (fun _ => ?_)
      refine jj_aload_n F dX9_parts_11 rfl ?_
      refine jj_getr F g84 (by assumption) (by rfl) dX9_parts_12 ?_
      refine jj_iload_n F dX9_parts_15 rfl ?_
      refine jj_iload_n F dX9_parts_16 rfl ?_
      refine jj_iconst F (v := -1) dX9_parts_17 (by decide) ?_
      refine jj_icmp_eq F (tgt := 37) dX9_parts_18 (by decide) (fun _ => ?_) (fun h9 => absurd (rfl) h9)
      refine jj_iconst F (v := nI 0) dX9_parts_37 (by decide) ?_
      refine jj_zast F (by assumption) rfl (by omega) (by first | exact Or.inl rfl | exact Or.inr rfl | exact b2i_01 _ | assumption) dX9_parts_38 ?_
      refine jj_iinc F dX9_parts_39 rfl (by first | exact iinc1 _ | rfl) (by rw [hnl]; decide) ?_
      dsimp only [lq_st, lq_clr, lq_no]
      refine jj_goto F (tgt := 4) dX9_parts_42 (by decide) ?_
      rw [fl_put ?_]
      · exact ih
      · rfl
  refine jj_iconst F (v := nI 0) dX9_parts_0 (by decide) ?_
  refine jj_istore_n F dX9_parts_1 (by rw [hnl]; decide) ?_
  dsimp only [lq_st, lq_clr, lq_no]
  refine jj_iconst F (v := nI 0) dX9_parts_2 (by decide) ?_
  refine jj_istore_n F dX9_parts_3 (by rw [hnl]; decide) ?_
  dsimp only [lq_st, lq_clr, lq_no]
  refine jj_eqM (fl_0 M 503 (fun c => b2i (!(fun _ => true) c))) ?_
  exact l0 0 (by omega)
set_option maxRecDepth 100000 in
set_option maxHeartbeats 1000000 in
theorem c_partsK {l : Launch} {E : Ee} {M : Mm} {k : Nat} {L : Nat → Nat → Bool} (hL : M.2 497 = lws L) (hk : k < 60) : CtI l E yX9_parts (.code yX9_parts cX9_parts 4 (some .int) :: gl) ({ frames := 4, cells := 0, slots := 0, locals := 95 } : Room) M [.ref (E.2.2 478), .int (nI k)] 0 0 (fun r M2 => r = nI (fb_ct (fun y => (L k) y && frB (L k) (fun z x => Cmp (L k) true z x) y) 256) ∧ ∃ (ρ : Nat → Int64) (B : Nat → Bool), M2 = wA (wL M 502 ρ) 503 (fun c => b2i (B c))) := by
  refine ctI_of (L0 := [some (.ref (E.2.2 478)), some (.int (nI k)), none, none]) (by decide) rfl (Nat.le_of_ble_eq_true rfl) rfl ?_
  intro Z hl hE hnl F ret
  subst hE
  have in_X9 : ∀ w ∈ u_ws RX9 TX9 33, w ∈ (.code yX9_parts cX9_parts 4 (some .int) :: gl) := fun w h => List.mem_cons_of_mem _ (lay_X9 w h)
  have g66 : FG Z 66 9 24 := fg_mk F (C := RX9) (T := TX9) (N := 33) in_X9 rfl (by decide) rfl (List.mem_cons_of_mem _ fk_X9_66)
  have g84 : FG Z 84 9 31 := fg_mk F (C := RX9) (T := TX9) (N := 33) in_X9 rfl (by decide) rfl (List.mem_cons_of_mem _ fk_X9_84)
  have kM := kd_M
  have k479 := kd_479
  have k480 := kd_480
  have k481 := kd_481
  have k482 := kd_482
  have k483 := kd_483
  have k484 := kd_484
  have k485 := kd_485
  have k486 := kd_486
  have k487 := kd_487
  have k488 := kd_488
  have k489 := kd_489
  have k490 := kd_490
  have k491 := kd_491
  have k492 := kd_492
  have k493 := kd_493
  have k494 := kd_494
  have k495 := kd_495
  have k496 := kd_496
  have k497 := kd_497
  have k498 := kd_498
  have k499 := kd_499
  have k500 := kd_500
  have k501 := kd_501
  have k502 := kd_502
  have k503 := kd_503
  have htr : ∀ z y x, z < 256 → y < 256 → x < 256 → (L k) z = true → (fun z x => Cmp (L k) true z x) z y → (fun z x => Cmp (L k) true z x) y x → (fun z x => Cmp (L k) true z x) z x := by
    intro z y x _ _ _ _ h1 h2
    exact Cmp_tr h1 h2
  have lo : ∀ i, i ≤ 256 → ∀ (ρ : Nat → Int64) (B : Nat → Bool), Qp (L k) (fun z x => Cmp (L k) true z x) i B → JJ Z (0, 0) (wA (wL M 502 ρ) 503 (fun c => b2i (B c))) 47 [some (.ref ((zE Z).2.2 478)), some (.int (nI k)), some (.int (nI (fb_ct (fun y => (L k) y && frB (L k) (fun z x => Cmp (L k) true z x) y) i))), some (.int (nI i))] [] := by
    refine jj_loop 256 ?_ ?_
    · intro ρ B hQ
      refine jj_iload_n F dX9_parts_47 rfl ?_
      refine jj_sipush F (v := nI 256) dX9_parts_48 (by decide) ?_
      refine jj_icmp_ge F (tgt := 82) dX9_parts_51 (by decide) (fun _ => ?_) (fun h9 => absurd (nI_le (by omega) (by omega)) h9)
      refine jj_iload_n F dX9_parts_82 rfl ?_
      refine ret _ _ _ _ dX9_parts_83 (by first | rfl | exact nar_z (by first | exact Or.inl rfl | exact Or.inr rfl | exact b2i_01 _ | assumption)) ?_
      exact ⟨rfl, ρ, B, rfl⟩
    · intro i hi ih ρ B hQ
      have hb9 : (wA (wL M 502 ρ) 503 (fun c => b2i (B c))).1 503 i = b2i (B i) := by rw [wA_1s]
      have hRR : ∀ R : Nat → Bool, (wL (wA (wL M 502 ρ) 503 (fun c => b2i (B c))) 502 (lwOf R)).2 502 = lwOf R := fun R => wL_s _ _ _
      refine jj_iload_n F dX9_parts_47 rfl ?_
      refine jj_sipush F (v := nI 256) dX9_parts_48 (by decide) ?_
      refine jj_icmp_ge F (tgt := 82) dX9_parts_51 (by decide) (fun h9 => absurd h9 (nI_ge (by omega) (by omega))) (fun _ => ?_)
      refine jj_aload_n F dX9_parts_54 rfl ?_
      refine jj_getr F g84 (by assumption) (by rfl) dX9_parts_55 ?_
      refine jj_iload_n F dX9_parts_58 rfl ?_
      refine jj_zald F (by assumption) rfl (by omega) dX9_parts_59 ?_
      rw [hb9]
      refine jj_if_ne F (tgt := 76) dX9_parts_60 (by decide) (fun h60 => ?_) (fun h60 => ?_)
      · refine jj_iinc F dX9_parts_76 rfl (by first | exact iinc1 _ | rfl) (by rw [hnl]; decide) ?_
        dsimp only [lq_st, lq_clr, lq_no]
        refine jj_goto F (tgt := 47) dX9_parts_79 (by decide) ?_
        first
        | (have z := van_f h60; obtain ⟨q1, q2⟩ := Qp_y hi hQ z hR9; have hz := ih (lwOf R9) _ q1; rw [fb_ct_succ, q2] at hz; exact jj_eqM (wLA_x _ _ _ _ _) hz)
        | (have z := van_t h60; obtain ⟨q1, q2⟩ := Qp_n hi hQ z htr; have hz := ih ρ B q1; rw [fb_ct_succ, q2] at hz; exact hz)
      · refine jj_aload_n F dX9_parts_63 rfl ?_
        refine jj_iload_n F dX9_parts_64 rfl ?_
        refine jj_iload_n F dX9_parts_65 rfl ?_
        refine jj_callVv (na := 2) F (c_layRegionK (M := (wA (wL M 502 ρ) 503 (fun c => b2i (B c)))) (L := L) (S := L k) (by rw [wA_2, wL_n (by decide)]; exact hL) hk hi (fun c _ => rfl)) (gl_V mk_X9_226 vw_X9_layRegion) rfl rfl rfl (by decide +kernel) ⟨Nat.le_of_ble_eq_true rfl, Nat.le_of_ble_eq_true rfl⟩ kM rfl rfl rfl (Nat.le_of_ble_eq_true rfl) ⟨Nat.le_of_ble_eq_true rfl, Nat.le_of_ble_eq_true rfl⟩ dX9_parts_66 (fun M66 hp66 => ?_)
        obtain ⟨R9, rfl, hR9⟩ := hp66
        refine jj_aload_n F dX9_parts_69 rfl ?_
        refine jj_callVv (na := 0) F (c_X9_meetRegion (B := B) (hRR R9) (fun c hc => by rw [wL_1, wA_1s])) (gl_V mk_X9_259 vw_X9_meetRegion) rfl rfl rfl (by decide +kernel) ⟨Nat.le_of_ble_eq_true rfl, Nat.le_of_ble_eq_true rfl⟩ kM rfl rfl rfl (Nat.le_of_ble_eq_true rfl) ⟨Nat.le_of_ble_eq_true rfl, Nat.le_of_ble_eq_true rfl⟩ dX9_parts_70 (fun M70 hp70 => ?_)
        obtain rfl := hp70.symm
        refine jj_iinc F dX9_parts_73 rfl (by first | exact iinc1 _ | rfl) (by rw [hnl]; decide) ?_
        dsimp only [lq_st, lq_clr, lq_no]
        refine jj_iinc F dX9_parts_76 rfl (by first | exact iinc1 _ | rfl) (by rw [hnl]; decide) ?_
        dsimp only [lq_st, lq_clr, lq_no]
        refine jj_goto F (tgt := 47) dX9_parts_79 (by decide) ?_
        first
        | (have z := van_f h60; obtain ⟨q1, q2⟩ := Qp_y hi hQ z hR9; have hz := ih (lwOf R9) _ q1; rw [fb_ct_succ, q2] at hz; exact jj_eqM (wLA_x _ _ _ _ _) hz)
        | (have z := van_t h60; obtain ⟨q1, q2⟩ := Qp_n hi hQ z htr; have hz := ih ρ B q1; rw [fb_ct_succ, q2] at hz; exact hz)
  have l0 : ∀ i, i ≤ 256 → JJ Z (0, 0) (wA M 503 (fl i (fun c => b2i (!(L k) c)) (M.1 503))) 4 [some (.ref ((zE Z).2.2 478)), some (.int (nI k)), some (.int (nI 0)), some (.int (nI i))] [] := by
    refine jj_loop (256) ?_ ?_
    · refine jj_iload_n F dX9_parts_4 rfl ?_
      refine jj_sipush F (v := nI 256) dX9_parts_5 (by decide) ?_
      refine jj_icmp_ge F (tgt := 45) dX9_parts_8 (by decide) (fun _ => ?_) (fun h9 => absurd (nI_le (by omega) (by omega)) h9)
      refine jj_iconst F (v := nI 0) dX9_parts_45 (by decide) ?_
      refine jj_istore_n F dX9_parts_46 (by rw [hnl]; decide) ?_
      dsimp only [lq_st, lq_clr, lq_no]
      refine jj_eqv (meq_fl k503) ?_
      refine jj_eqM ?_ (lo 0 (by omega) (M.2 502) _ Qp_0)
      rw [wL_same]
    · intro i hi ih
      refine jj_iload_n F dX9_parts_4 rfl ?_
      refine jj_sipush F (v := nI 256) dX9_parts_5 (by decide) ?_
      refine jj_icmp_ge F (tgt := 45) dX9_parts_8 (by decide) (fun h9 => absurd h9 (nI_ge (by omega) (by omega))) (fun _ => ?_)
      refine jj_aload_n F dX9_parts_11 rfl ?_
      refine jj_getr F g84 (by assumption) (by rfl) dX9_parts_12 ?_
      refine jj_iload_n F dX9_parts_15 rfl ?_
      refine jj_iload_n F dX9_parts_16 rfl ?_
      refine jj_iconst F (v := -1) dX9_parts_17 (by decide) ?_
      refine jj_icmp_eq F (tgt := 37) dX9_parts_18 (by decide) (fun h9 => absurd h9 (nI_m1 (by omega))) (fun _ => ?_)
      refine jj_aload_n F dX9_parts_21 rfl ?_
      refine jj_getr F g66 (by assumption) (by rfl) dX9_parts_22 ?_
      refine jj_iload_n F dX9_parts_25 rfl ?_
      refine jj_iload_n F dX9_parts_26 rfl ?_
      refine jj_callSi (na := 3) F (c_X9_hasIn (M := wA M 503 (fl i (fun c => b2i (!(L k) c)) (M.1 503))) k497 hL hk hi) (gl_S mk_X9_115 vw_X9_hasIn) rfl rfl rfl (by decide +kernel) ⟨Nat.le_of_ble_eq_true rfl, Nat.le_of_ble_eq_true rfl⟩ rfl rfl (Nat.le_of_ble_eq_true rfl) ⟨Nat.le_of_ble_eq_true rfl, Nat.le_of_ble_eq_true rfl⟩ dX9_parts_27 (fun r27 M27 hp27 => ?_)
      obtain ⟨rfl, rfl⟩ := symm2 hp27
      refine jj_if_ne F (tgt := 37) dX9_parts_30 (by decide) (fun h30 => ?_) (fun h30 => ?_)
      · refine jj_iconst F (v := nI 0) dX9_parts_37 (by decide) ?_
        refine jj_zast F (by assumption) rfl (by omega) (by first | exact Or.inl rfl | exact Or.inr rfl | exact b2i_01 _ | assumption) dX9_parts_38 ?_
        refine jj_iinc F dX9_parts_39 rfl (by first | exact iinc1 _ | rfl) (by rw [hnl]; decide) ?_
        dsimp only [lq_st, lq_clr, lq_no]
        refine jj_goto F (tgt := 4) dX9_parts_42 (by decide) ?_
        rw [fl_put ?_]
        · exact ih
        · first
          | (have z := van_t h30; show nI 0 = b2i (!L k i); rw [z]; rfl)
          | (have z := van_f h30; show nI 1 = b2i (!L k i); rw [z]; rfl)
      · refine jj_iconst F (v := nI 1) dX9_parts_33 (by decide) ?_
        refine jj_goto F (tgt := 38) dX9_parts_34 (by decide) ?_
        refine jj_zast F (by assumption) rfl (by omega) (by first | exact Or.inl rfl | exact Or.inr rfl | exact b2i_01 _ | assumption) dX9_parts_38 ?_
        refine jj_iinc F dX9_parts_39 rfl (by first | exact iinc1 _ | rfl) (by rw [hnl]; decide) ?_
        dsimp only [lq_st, lq_clr, lq_no]
        refine jj_goto F (tgt := 4) dX9_parts_42 (by decide) ?_
        rw [fl_put ?_]
        · exact ih
        · first
          | (have z := van_t h30; show nI 0 = b2i (!L k i); rw [z]; rfl)
          | (have z := van_f h30; show nI 1 = b2i (!L k i); rw [z]; rfl)
  refine jj_iconst F (v := nI 0) dX9_parts_0 (by decide) ?_
  refine jj_istore_n F dX9_parts_1 (by rw [hnl]; decide) ?_
  dsimp only [lq_st, lq_clr, lq_no]
  refine jj_iconst F (v := nI 0) dX9_parts_2 (by decide) ?_
  refine jj_istore_n F dX9_parts_3 (by rw [hnl]; decide) ?_
  dsimp only [lq_st, lq_clr, lq_no]
  refine jj_eqM (fl_0 M 503 (fun c => b2i (!(L k) c))) ?_
  exact l0 0 (by omega)
