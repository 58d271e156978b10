/-! the neighbors of a cell -/
def nbN (g : Bool) (c : Nat) : List (Option Nat) :=
  [if c / 16 = 0 then none else some (c - 16), if c % 16 = 0 then none else some (c - 1), if c % 16 = 15 then none else some (c + 1), if c / 16 = 15 then none else some (c + 16)] ++ (if g = true then [if c % 16 = 0 ∨ c / 16 = 0 then none else some (c - 17), if c % 16 = 15 ∨ c / 16 = 0 then none else some (c - 15), if c % 16 = 0 ∨ c / 16 = 15 then none else some (c + 15), if c % 16 = 15 ∨ c / 16 = 15 then none else some (c + 17)] else [])
theorem ca_n : ∀ c, c < 256 → cellAt (nI (c % 16)) (nI (c / 16) - nI 1) = if c / 16 = 0 then none else some (c - 16) := by decide +kernel
theorem ca_w : ∀ c, c < 256 → cellAt (nI (c % 16) - nI 1) (nI (c / 16)) = if c % 16 = 0 then none else some (c - 1) := by decide +kernel
theorem ca_e : ∀ c, c < 256 → cellAt (nI (c % 16) + nI 1) (nI (c / 16)) = if c % 16 = 15 then none else some (c + 1) := by decide +kernel
theorem ca_s : ∀ c, c < 256 → cellAt (nI (c % 16)) (nI (c / 16) + nI 1) = if c / 16 = 15 then none else some (c + 16) := by decide +kernel
theorem ca_nw : ∀ c, c < 256 → cellAt (nI (c % 16) - nI 1) (nI (c / 16) - nI 1) = if c % 16 = 0 ∨ c / 16 = 0 then none else some (c - 17) := by decide +kernel
theorem ca_ne : ∀ c, c < 256 → cellAt (nI (c % 16) + nI 1) (nI (c / 16) - nI 1) = if c % 16 = 15 ∨ c / 16 = 0 then none else some (c - 15) := by decide +kernel
theorem ca_sw : ∀ c, c < 256 → cellAt (nI (c % 16) - nI 1) (nI (c / 16) + nI 1) = if c % 16 = 0 ∨ c / 16 = 15 then none else some (c + 15) := by decide +kernel
theorem ca_se : ∀ c, c < 256 → cellAt (nI (c % 16) + nI 1) (nI (c / 16) + nI 1) = if c % 16 = 15 ∨ c / 16 = 15 then none else some (c + 17) := by decide +kernel
theorem nbs_eq {d : Int32} {c : Nat} {s : Rs} (hc : c < 256) : nbs d c s = (nbN (!decide (d = 0)) c).foldl (fun s o => enqO o s) s := by
  unfold nbs nbN
  dsimp only
  rw [ca_n c hc, ca_w c hc, ca_e c hc, ca_s c hc, ca_nw c hc, ca_ne c hc, ca_sw c hc, ca_se c hc]
  by_cases h : d = 0
  · simp [h]
  · simp [h]
/-! what hangs together -/
def Cmp (S : Nat → Bool) (g : Bool) (a x : Nat) : Prop := ∀ W : Nat → Prop, W a → (∀ u v, W u → S v = true → some v ∈ nbN g u → W v) → W x
theorem Cmp_rf {S : Nat → Bool} {g : Bool} {a : Nat} : Cmp S g a a := fun _ h _ => h
theorem Cmp_st {S : Nat → Bool} {g : Bool} {a u v : Nat} (h : Cmp S g a u) (hv : S v = true) (hn : some v ∈ nbN g u) : Cmp S g a v := fun W h1 h2 => h2 u v (h W h1 h2) hv hn
theorem Cmp_tr {S : Nat → Bool} {g : Bool} {a u v : Nat} (h : Cmp S g a u) (h2 : Cmp S g u v) : Cmp S g a v := h2 (fun x => Cmp S g a x) h (fun _ _ hu hv hn => Cmp_st hu hv hn)
theorem nb_sym0 : ∀ c, c < 256 → (nbN false c).all (fun o => match o with
  | none => true
  | some e => decide (e < 256) && (nbN false e).contains (some c)) = true := by decide +kernel
theorem nb_sym1 : ∀ c, c < 256 → (nbN true c).all (fun o => match o with
  | none => true
  | some e => decide (e < 256) && (nbN true e).contains (some c)) = true := by decide +kernel
theorem nb_sym {g : Bool} {c e : Nat} (hc : c < 256) (h : some e ∈ nbN g c) : e < 256 ∧ some c ∈ nbN g e := by
  cases g
  · have := List.all_eq_true.mp (nb_sym0 c hc) _ h
    simp only [Bool.and_eq_true, decide_eq_true_eq] at this
    exact ⟨this.1, List.contains_iff_mem.mp this.2⟩
  · have := List.all_eq_true.mp (nb_sym1 c hc) _ h
    simp only [Bool.and_eq_true, decide_eq_true_eq] at this
    exact ⟨this.1, List.contains_iff_mem.mp this.2⟩
theorem Cmp_lt {S : Nat → Bool} {g : Bool} {a x : Nat} (ha : a < 256) (h : Cmp S g a x) : x < 256 := h (fun x => x < 256) ha (fun _ _ hu _ hn => (nb_sym hu hn).1)
theorem Cmp_S {S : Nat → Bool} {g : Bool} {a x : Nat} (ha : S a = true) (h : Cmp S g a x) : S x = true := h (fun x => S x = true) ha (fun _ _ _ hv _ => hv)
theorem Cmp_sy {S : Nat → Bool} {g : Bool} {a x : Nat} (ha : a < 256) (hS : S a = true) (h : Cmp S g a x) : Cmp S g x a := by
  have := h (fun y => y < 256 ∧ S y = true ∧ Cmp S g y a) ⟨ha, hS, Cmp_rf⟩ (fun u v hu hv hn => by
    have q := nb_sym hu.1 hn
    exact ⟨q.1, hv, Cmp_tr (Cmp_st Cmp_rf hu.2.1 q.2) hu.2.2⟩)
  exact this.2.2
theorem Cmp_cong {S T : Nat → Bool} {g : Bool} {a x : Nat} (ha : a < 256) (h : ∀ y, y < 256 → S y = T y) (hc : Cmp S g a x) : Cmp T g a x := by
  have := hc (fun y => y < 256 ∧ Cmp T g a y) ⟨ha, Cmp_rf⟩ (fun u v hu hv hn => by
    have q := nb_sym hu.1 hn
    exact ⟨q.1, Cmp_st hu.2 (by rw [← h v q.1]; exact hv) hn⟩)
  exact this.2
/-- the invariant of the spreading from c0 in S -/
def Inv (S : Nat → Bool) (g : Bool) (c0 : Nat) (s : Rs) : Prop :=
  (∀ x, x < 256 → (S x = true ↔ (s.1 x = true ∨ ∃ j, j < s.2.2 ∧ s.2.1 j = x))) ∧ (∀ j, j < s.2.2 → s.2.1 j < 256 ∧ s.1 (s.2.1 j) = false ∧ Cmp S g c0 (s.2.1 j)) ∧ s.2.2 + fb_ct s.1 256 = fb_ct S 256
theorem enq_inv {S : Nat → Bool} {g : Bool} {c0 : Nat} {s : Rs} {o : Option Nat} (hI : Inv S g c0 s) (ho : ∀ e, o = some e → e < 256 ∧ (S e = true → Cmp S g c0 e)) : Inv S g c0 (enqO o s) ∧ (∀ x, x < 256 → (enqO o s).1 x = (s.1 x && !(some x == o))) ∧ s.2.2 ≤ (enqO o s).2.2 ∧ ∀ j, j < s.2.2 → (enqO o s).2.1 j = s.2.1 j := by
  match o, ho with
  | none, _ => exact ⟨hI, fun x hx => by simp [enqO], Nat.le_refl _, fun _ _ => rfl⟩
  | some e, ho =>
    obtain ⟨he, hc⟩ := ho e rfl
    obtain ⟨h1, h2, h3⟩ := hI
    by_cases hR : s.1 e = true
    · have hpos : 0 < fb_ct s.1 256 := fb_ct_pos.mpr ⟨e, he, hR⟩
      have hle := fb_ct_le S 256
      have hq : s.2.2 < 256 := by omega
      have hSe : S e = true := (h1 e he).mpr (Or.inl hR)
      have ee : enqO (some e) s = (fun d => s.1 d && !(d == e), fun j => if j = s.2.2 then e else s.2.1 j, s.2.2 + 1) := by
        simp only [enqO, hq, hR, and_self, if_true]
      rw [ee]
      refine ⟨⟨fun x hx => ?_, fun j hj => ?_, ?_⟩, fun x hx => ?_, by show s.2.2 ≤ s.2.2 + 1; omega, fun j hj => ?_⟩
      · rw [h1 x hx]
        constructor
        · rintro (h | ⟨j, hj, hx2⟩)
          · by_cases q : x = e
            · right
              exact ⟨s.2.2, by show _ < s.2.2 + 1; omega, by simp [q]⟩
            · left
              simp [h, q]
          · right
            exact ⟨j, by show _ < s.2.2 + 1; omega, by simp [show ¬ j = s.2.2 by omega, hx2]⟩
        · rintro (h | ⟨j, hj, hx2⟩)
          · left
            simp only [Bool.and_eq_true] at h
            exact h.1
          · have hj : j < s.2.2 + 1 := hj
            by_cases q : j = s.2.2
            · left
              simp [q] at hx2
              rw [← hx2]; exact hR
            · right
              simp [q] at hx2
              exact ⟨j, by omega, hx2⟩
      · have hj : j < s.2.2 + 1 := hj
        by_cases q : j = s.2.2
        · simp [q, he]
          exact hc hSe
        · obtain ⟨a, b, c⟩ := h2 j (by omega)
          simp [q, a, b, c]
      · show s.2.2 + 1 + fb_ct (fun d => s.1 d && !(d == e)) 256 = fb_ct S 256
        have hu := fb_ct_upd s.1 false (i := e) (n := 256) he
        have hcg : fb_ct (fun d => s.1 d && !(d == e)) 256 = fb_ct (fun k => if k = e then false else s.1 k) 256 := fb_ct_cong (fun k _ => by
          by_cases q : k = e
          · simp [q]
          · simp [q])
        rw [hcg]
        simp only [hR, if_true, Bool.false_eq_true, if_false] at hu
        omega
      · show (s.1 x && !(x == e)) = (s.1 x && !(some x == some e))
        simp
      · show (if j = s.2.2 then e else s.2.1 j) = s.2.1 j
        rw [if_neg (by omega)]
    · have hR : s.1 e = false := by simpa using hR
      have ee : enqO (some e) s = s := by simp only [enqO, hR, Bool.false_eq_true, and_false, if_false]
      rw [ee]
      refine ⟨⟨h1, h2, h3⟩, fun x hx => ?_, Nat.le_refl _, fun _ _ => rfl⟩
      by_cases q : x = e
      · subst q; simp [hR]
      · simp [q]
theorem fold_inv {S : Nat → Bool} {g : Bool} {c0 : Nat} : ∀ (L : List (Option Nat)) {s : Rs}, Inv S g c0 s → (∀ e, some e ∈ L → e < 256 ∧ (S e = true → Cmp S g c0 e)) → Inv S g c0 (L.foldl (fun s o => enqO o s) s) ∧ (∀ x, x < 256 → (L.foldl (fun s o => enqO o s) s).1 x = true → s.1 x = true ∧ ¬ some x ∈ L) ∧ s.2.2 ≤ (L.foldl (fun s o => enqO o s) s).2.2 ∧ ∀ j, j < s.2.2 → (L.foldl (fun s o => enqO o s) s).2.1 j = s.2.1 j
  | [], s, hI, _ => ⟨hI, fun x _ h => ⟨h, by simp⟩, Nat.le_refl _, fun _ _ => rfl⟩
  | o :: t, s, hI, ho => by
    obtain ⟨a, b, c, d⟩ := enq_inv (o := o) hI (fun e he => ho e (by rw [he]; exact List.mem_cons_self))
    obtain ⟨a2, b2, c2, d2⟩ := fold_inv t a (fun e he => ho e (List.mem_cons_of_mem _ he))
    refine ⟨a2, fun x hx h => ?_, Nat.le_trans c c2, fun j hj => ?_⟩
    · obtain ⟨h1, h2⟩ := b2 x hx h
      rw [b x hx] at h1
      simp only [Bool.and_eq_true] at h1
      refine ⟨h1.1, fun hm => ?_⟩
      rcases List.mem_cons.mp hm with q | q
      · rw [q] at h1
        simp at h1
      · exact h2 q
    · show (t.foldl (fun s o => enqO o s) (enqO o s)).2.1 j = _
      rw [d2 j (by omega), d j hj]
theorem spr_inv {S : Nat → Bool} {d : Int32} {c0 : Nat} : ∀ (n i : Nat) {s : Rs}, n + i = 256 → Inv S (!decide (d = 0)) c0 s → (∀ j, j < i → j < s.2.2 → ∀ e, some e ∈ nbN (!decide (d = 0)) (s.2.1 j) → s.1 e = false) → Inv S (!decide (d = 0)) c0 (sprL d n i s) ∧ (∀ j, j < (sprL d n i s).2.2 → ∀ e, some e ∈ nbN (!decide (d = 0)) ((sprL d n i s).2.1 j) → (sprL d n i s).1 e = false) ∧ s.2.2 ≤ (sprL d n i s).2.2 ∧ ∀ j, j < s.2.2 → (sprL d n i s).2.1 j = s.2.1 j
  | 0, i, s, hi, hI, h3 => by
    have hq : s.2.2 ≤ 256 := by
      have := hI.2.2
      have := fb_ct_le S 256
      omega
    exact ⟨hI, fun j hj => h3 j (by have hj : j < s.2.2 := hj; omega) hj, Nat.le_refl _, fun _ _ => rfl⟩
  | n + 1, i, s, hi, hI, h3 => by
    unfold sprL
    by_cases w : i < s.2.2
    · simp only [w, if_true]
      have hQ := hI.2.1 i w
      rw [nbs_eq hQ.1]
      obtain ⟨a, b, c, e⟩ := fold_inv (nbN (!decide (d = 0)) (s.2.1 i)) hI (fun x hx => ⟨(nb_sym hQ.1 hx).1, fun hS => Cmp_st hQ.2.2 hS hx⟩)
      obtain ⟨a2, b2, c2, e2⟩ := spr_inv n (i + 1) (by omega) a (fun j hj hj2 x hx => by
        rcases Nat.lt_or_ge j i with q | q
        · have hj3 : j < s.2.2 := by omega
          rw [e j hj3] at hx
          have hx256 := (nb_sym (hI.2.1 j hj3).1 hx).1
          cases hv : (List.foldl (fun s o => enqO o s) s (nbN (!decide (d = 0)) (s.2.1 i))).1 x
          · rfl
          · have := (b x hx256 hv).1
            rw [h3 j q hj3 x hx] at this
            cases this
        · have : j = i := by omega
          subst this
          rw [e j w] at hx
          have hx256 := (nb_sym hQ.1 hx).1
          cases hv : (List.foldl (fun s o => enqO o s) s (nbN (!decide (d = 0)) (s.2.1 j))).1 x
          · rfl
          · exact absurd hx (b x hx256 hv).2)
      exact ⟨a2, b2, Nat.le_trans c c2, fun j hj => by rw [e2 j (by omega), e j hj]⟩
    · simp only [w, if_false]
      exact ⟨hI, fun j hj => h3 j (by omega) hj, Nat.le_refl _, fun _ _ => by first | rfl | trivial⟩
/-- the spreading from c takes the cells that hang together with it -/
theorem spr_spec {S : Nat → Bool} {d : Int32} {c : Nat} (Q : Nat → Nat) (hc : c < 256) (hS : S c = true) : (∀ x, x < 256 → ((sprd d c S Q).1 x = true ↔ (S x = true ∧ ¬ Cmp S (!decide (d = 0)) c x))) ∧ (∀ x, (∃ j, j < (sprd d c S Q).2.2 ∧ (sprd d c S Q).2.1 j = x) ↔ Cmp S (!decide (d = 0)) c x) := by
  have I0 : Inv S (!decide (d = 0)) c (S, Q, 0) := ⟨fun x hx => ⟨fun h => Or.inl h, fun h => h.elim id (fun ⟨j, hj, _⟩ => absurd hj (Nat.not_lt_zero j))⟩, fun j hj => absurd hj (Nat.not_lt_zero j), by show 0 + fb_ct S 256 = _; omega⟩
  obtain ⟨I1, b1, c1, d1⟩ := enq_inv (o := some c) I0 (fun e he => by cases he; exact ⟨hc, fun _ => Cmp_rf⟩)
  have e1 : enqO (some c) (S, Q, 0) = (fun y => S y && !(y == c), fun j => if j = 0 then c else Q j, 1) := by simp only [enqO, hS, show (0 : Nat) < 256 by omega, and_self, if_true]
  obtain ⟨I2, b2, c2, d2⟩ := spr_inv (d := d) 256 0 (by omega) I1 (fun j hj => absurd hj (Nat.not_lt_zero j))
  have hq0 : 0 < (sprd d c S Q).2.2 ∧ (sprd d c S Q).2.1 0 = c := by
    have h1 : 0 < (enqO (some c) (S, Q, 0)).2.2 := by rw [e1]; show 0 < 1; omega
    have h2 := d2 0 h1
    rw [e1] at h2
    refine ⟨?_, by unfold sprd; rw [e1]; exact h2⟩
    unfold sprd
    omega
  have hW : ∀ x, (∃ j, j < (sprd d c S Q).2.2 ∧ (sprd d c S Q).2.1 j = x) ↔ Cmp S (!decide (d = 0)) c x := by
    intro x
    constructor
    · rintro ⟨j, hj, rfl⟩
      exact (I2.2.1 j hj).2.2
    · intro h
      refine h (fun x => ∃ j, j < (sprd d c S Q).2.2 ∧ (sprd d c S Q).2.1 j = x) ⟨0, hq0⟩ ?_
      rintro u v ⟨j, hj, rfl⟩ hv hn
      have hv256 := (nb_sym (I2.2.1 j hj).1 hn).1
      have hR := b2 j hj v hn
      rcases (I2.1 v hv256).mp hv with q | q
      · have q : (sprL d 256 0 (enqO (some c) (S, Q, 0))).1 v = true := q
        rw [hR] at q
        cases q
      · exact q
  refine ⟨fun x hx => ?_, hW⟩
  constructor
  · intro h
    refine ⟨(I2.1 x hx).mpr (Or.inl h), fun hc2 => ?_⟩
    obtain ⟨j, hj, rfl⟩ := (hW x).mpr hc2
    have := (I2.2.1 j hj).2.1
    have h : (sprL d 256 0 (enqO (some c) (S, Q, 0))).1 ((sprd d c S Q).2.1 j) = true := h
    have this : (sprL d 256 0 (enqO (some c) (S, Q, 0))).1 ((sprd d c S Q).2.1 j) = false := this
    rw [this] at h
    cases h
  · rintro ⟨h1, h2⟩
    rcases (I2.1 x hx).mp h1 with q | q
    · exact q
    · exact absurd ((hW x).mp q) h2
/-- y is the first cell of its part -/
noncomputable def mrB (S : Nat → Bool) (g : Bool) (y : Nat) : Bool := @decide (∀ z, z < y → ¬ (S z = true ∧ Cmp S g z y)) (Classical.propDecidable _)
theorem mrB_t {S : Nat → Bool} {g : Bool} {y : Nat} : mrB S g y = true ↔ ∀ z, z < y → ¬ (S z = true ∧ Cmp S g z y) := by
  unfold mrB
  rw [@decide_eq_true_iff _ (Classical.propDecidable _)]
noncomputable def npt (S : Nat → Bool) (g : Bool) (i : Nat) : Nat := fb_ct (fun y => S y && mrB S g y) i
theorem pt_inv {S : Nat → Bool} {d : Int32} (Q : Nat → Nat) (q : Nat) : ∀ i, i ≤ 256 → (∀ x, x < 256 → ((ptA d (S, Q, q) i).1.1 x = true ↔ (S x = true ∧ ∀ z, z < i → ¬ (S z = true ∧ Cmp S (!decide (d = 0)) z x)))) ∧ (ptA d (S, Q, q) i).2 = npt S (!decide (d = 0)) i
  | 0, _ => ⟨fun x hx => ⟨fun h => ⟨h, fun z hz => absurd hz (Nat.not_lt_zero z)⟩, fun h => h.1⟩, rfl⟩
  | i + 1, hi => by
    obtain ⟨h1, h2⟩ := pt_inv (S := S) (d := d) Q q i (by omega)
    have hRi := h1 i (by omega)
    unfold ptA
    by_cases w : (ptA d (S, Q, q) i).1.1 i = true
    · simp only [w, if_true]
      obtain ⟨hSi, hmin⟩ := hRi.mp w
      have hin : ∀ y, Cmp S (!decide (d = 0)) i y → (ptA d (S, Q, q) i).1.1 y = true := by
        intro y hy
        refine (h1 y (Cmp_lt (by omega) hy)).mpr ⟨Cmp_S hSi hy, fun z hz ⟨hz1, hz2⟩ => ?_⟩
        exact hmin z hz ⟨hz1, Cmp_tr hz2 (Cmp_sy (by omega) hSi hy)⟩
      have heq : ∀ x, Cmp (ptA d (S, Q, q) i).1.1 (!decide (d = 0)) i x ↔ Cmp S (!decide (d = 0)) i x := by
        intro x
        constructor
        · intro h
          exact (h (fun y => y < 256 ∧ Cmp S (!decide (d = 0)) i y) ⟨by omega, Cmp_rf⟩ (fun u v hu hv hn => by
            have hv2 := (nb_sym hu.1 hn).1
            exact ⟨hv2, Cmp_st hu.2 ((h1 v hv2).mp hv).1 hn⟩)).2
        · intro h
          exact (h (fun y => Cmp S (!decide (d = 0)) i y ∧ Cmp (ptA d (S, Q, q) i).1.1 (!decide (d = 0)) i y) ⟨Cmp_rf, Cmp_rf⟩ (fun u v hu hv hn => by
            have hv3 := Cmp_st hu.1 hv hn
            exact ⟨hv3, Cmp_st hu.2 (hin v hv3) hn⟩)).2
      obtain ⟨s1, s2⟩ := spr_spec (S := (ptA d (S, Q, q) i).1.1) (d := d) (ptA d (S, Q, q) i).1.2.1 (show i < 256 by omega) w
      refine ⟨fun x hx => ?_, ?_⟩
      · rw [s1 x hx, h1 x hx, heq x]
        constructor
        · rintro ⟨⟨a, b⟩, c⟩
          refine ⟨a, fun z hz => ?_⟩
          rcases Nat.lt_or_ge z i with e | e
          · exact b z e
          · have : z = i := by omega
            subst this
            exact fun h => c h.2
        · rintro ⟨a, b⟩
          exact ⟨⟨a, fun z hz => b z (by omega)⟩, fun h => b i (by omega) ⟨hSi, h⟩⟩
      · unfold npt
        rw [fb_ct_succ, show fb_ct (fun y => S y && mrB S (!decide (d = 0)) y) i = npt S (!decide (d = 0)) i from rfl, ← h2]
        have hm : mrB S (!decide (d = 0)) i = true := mrB_t.mpr hmin
        simp [hSi, hm]
    · have w : (ptA d (S, Q, q) i).1.1 i = false := by simpa using w
      simp only [w, Bool.false_eq_true, if_false]
      have hn : ¬ (S i = true ∧ ∀ z, z < i → ¬ (S z = true ∧ Cmp S (!decide (d = 0)) z i)) := fun h => by
        have := hRi.mpr h
        rw [w] at this
        cases this
      refine ⟨fun x hx => ?_, ?_⟩
      · rw [h1 x hx]
        constructor
        · rintro ⟨a, b⟩
          refine ⟨a, fun z hz => ?_⟩
          rcases Nat.lt_or_ge z i with e | e
          · exact b z e
          · have : z = i := by omega
            subst this
            rintro ⟨hz1, hz2⟩
            refine hn ⟨hz1, fun y hy ⟨hy1, hy2⟩ => b y hy ⟨hy1, Cmp_tr hy2 hz2⟩⟩
        · rintro ⟨a, b⟩
          exact ⟨a, fun z hz => b z (by omega)⟩
      · unfold npt
        rw [fb_ct_succ, show fb_ct (fun y => S y && mrB S (!decide (d = 0)) y) i = npt S (!decide (d = 0)) i from rfl, ← h2]
        have hm : (S i && mrB S (!decide (d = 0)) i) = false := by
          cases hv : (S i && mrB S (!decide (d = 0)) i)
          · rfl
          · simp only [Bool.and_eq_true] at hv
            exact absurd ⟨hv.1, mrB_t.mp hv.2⟩ hn
        simp [hm]
theorem pt_spec {S : Nat → Bool} {d : Int32} (Q : Nat → Nat) (q : Nat) : (ptA d (S, Q, q) 256).2 = npt S (!decide (d = 0)) 256 := (pt_inv Q q 256 (Nat.le_refl _)).2
