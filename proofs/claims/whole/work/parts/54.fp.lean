/-! doubles of the mean -/
def gI (S : Nat) : Nat := FP.Core.fromInt FP.Core.b64 (Int.ofNat S)
def okS (S : Nat) : Bool := decide (gI S ≤ 9218868437227405312) && (decide (FP.Core.mul FP.Core.b64 4607182418800017408 (gI S) = gI S) && (match FP.Core.decode FP.Core.b64 (gI S) with
  | .fin s c _ => !s && (decide (S = 0) || !decide (c = 0))
  | _ => false))
def okR : Nat → Nat → Bool
  | lo, 0 => okS lo
  | lo, k + 1 => okR lo k && okR (lo + 2 ^ k) k
theorem okR_at : ∀ (k lo S : Nat), okR lo k = true → lo ≤ S → S < lo + 2 ^ k → okS S = true
  | 0, lo, S, h, h1, h2 => by
    rw [show S = lo by omega]
    exact h
  | k + 1, lo, S, h, h1, h2 => by
    simp only [okR, Bool.and_eq_true] at h
    rw [Nat.pow_succ] at h2
    rcases Nat.lt_or_ge S (lo + 2 ^ k) with q | q
    · exact okR_at k lo S h.1 h1 q
    · exact okR_at k (lo + 2 ^ k) S h.2 q (by omega)
theorem okR_a : okR 0 13 = true := by decide +kernel
theorem okR_b : okR 8192 13 = true := by decide +kernel
theorem okR_c : okR 16384 13 = true := by decide +kernel
theorem okR_d : okR 24576 11 = true := by decide +kernel
theorem okS_at {S : Nat} (h : S ≤ 25600) : okS S = true := by
  rcases Nat.lt_or_ge S 8192 with q | q
  · exact okR_at 13 0 S okR_a (by omega) (by omega)
  · rcases Nat.lt_or_ge S 16384 with q2 | q2
    · exact okR_at 13 8192 S okR_b q (by omega)
    · rcases Nat.lt_or_ge S 24576 with q3 | q3
      · exact okR_at 13 16384 S okR_c q2 (by omega)
      · exact okR_at 11 24576 S okR_d q3 (by omega)
theorem gI_ok {S : Nat} (h : S ≤ 25600) : gI S ≤ 9218868437227405312 ∧ FP.Core.mul FP.Core.b64 4607182418800017408 (gI S) = gI S ∧ ∃ c q, FP.Core.decode FP.Core.b64 (gI S) = .fin false c q ∧ (S = 0 ∨ ¬ c = 0) := by
  have k := okS_at h
  unfold okS at k
  rw [Bool.and_eq_true, Bool.and_eq_true, decide_eq_true_eq, decide_eq_true_eq] at k
  obtain ⟨k1, k2, k3⟩ := k
  refine ⟨k1, k2, ?_⟩
  generalize FP.Core.decode FP.Core.b64 (gI S) = D at k3
  cases D with
  | nan => cases k3
  | inf s => cases k3
  | fin s c q =>
    simp only [Bool.and_eq_true, Bool.or_eq_true, Bool.not_eq_true', decide_eq_true_eq, decide_eq_false_iff_not] at k3
    exact ⟨c, q, by rw [k3.1], k3.2⟩
theorem i2d_g {S : Nat} (h : S ≤ 25600) : (FP.i2d (nI S)).toNat = gI S := by
  have k := (gI_ok h).1
  show (UInt64.ofNat (FP.Core.fromInt FP.Core.b64 (nI S).toInt)).toNat = gI S
  rw [nI_toInt (by omega)]
  show (UInt64.ofNat (gI S)).toNat = gI S
  rw [UInt64.toNat_ofNat', Nat.mod_eq_of_lt (by omega)]
theorem dm1 {S : Nat} (h : S ≤ 25600) : FP.dmul (0x3ff0000000000000 : UInt64) (FP.i2d (nI S)) = FP.i2d (nI S) := by
  apply UInt64.toNat_inj.mp
  show (UInt64.ofNat (FP.Core.mul FP.Core.b64 (0x3ff0000000000000 : UInt64).toNat (FP.i2d (nI S)).toNat)).toNat = _
  rw [i2d_g h]
  have k := gI_ok h
  rw [show (0x3ff0000000000000 : UInt64).toNat = 4607182418800017408 from rfl, k.2.1, UInt64.toNat_ofNat', Nat.mod_eq_of_lt (by omega)]
theorem n64_of {x : UInt64} (h : x.toNat ≤ 9218868437227405312) : vf_n64 x := by
  unfold vf_n64
  rw [UInt64.le_iff_toNat_le, UInt64.toNat_and]
  exact Nat.le_trans Nat.and_le_left h
theorem fq1 : FP.Core.b64.tails = 4503599627370496 ∧ FP.Core.b64.exps = 2048 ∧ FP.Core.b64.qmax = 971 ∧ FP.Core.b64.qmin = -1074 ∧ FP.Core.b64.p = 53 := by decide
theorem bd_le {c : Nat} {q : Int} (hc : c < 9007199254740992) : FP.Core.encode FP.Core.b64 (FP.Core.bound FP.Core.b64 false c q) ≤ 9218868437227405312 := by
  obtain ⟨t1, t2, t3, t4, -⟩ := fq1
  unfold FP.Core.bound
  rw [t3]
  split
  · unfold FP.Core.encode FP.Core.assemble
    simp only
    rw [t1, t2, t4]
    split
    · simp only [Bool.toNat_false]; omega
    · simp only [Bool.toNat_false]; omega
  · unfold FP.Core.encode FP.Core.assemble
    simp only
    rw [t1, t2]
    simp only [Bool.toNat_false]; omega
theorem rr_le (num den : Nat) (e : Int) : FP.Core.encode FP.Core.b64 (FP.Core.roundRatio FP.Core.b64 false num den e) ≤ 9218868437227405312 := by
  unfold FP.Core.roundRatio
  split
  · decide
  · unfold FP.Core.roundAt FP.Core.settle
    obtain ⟨t1, -, -, -, t5⟩ := fq1
    rw [t5, t1]
    split
    · rename_i h
      exact bd_le h
    · exact bd_le (by omega)
theorem dv_n {S n : Nat} (h : S ≤ 25600) (h1 : 0 < n) (h2 : n ≤ 256) : vf_n64 (FP.ddiv (FP.i2d (nI S)) (FP.i2d (nI n))) := by
  apply n64_of
  show (UInt64.ofNat (FP.Core.div FP.Core.b64 (FP.i2d (nI S)).toNat (FP.i2d (nI n)).toNat)).toNat ≤ _
  rw [i2d_g h, i2d_g (by omega)]
  obtain ⟨-, -, c, q, e1, -⟩ := gI_ok h
  obtain ⟨-, -, d, r, e2, e3⟩ := gI_ok (S := n) (by omega)
  unfold FP.Core.div
  rw [e1, e2]
  have hd : ¬ d = 0 := by omega
  unfold FP.Core.quotient
  simp only
  rw [if_neg hd]
  show (UInt64.ofNat (FP.Core.encode FP.Core.b64 (FP.Core.roundRatio FP.Core.b64 false c d (q - r)))).toNat ≤ _
  have k := rr_le c d (q - r)
  rw [UInt64.toNat_ofNat', Nat.mod_eq_of_lt (by omega)]
  exact k
theorem dm_n {S : Nat} (h : S ≤ 25600) : vf_n64 (FP.dmul (0x3ff0000000000000 : UInt64) (FP.i2d (nI S))) := by
  rw [dm1 h]
  exact n64_of (by rw [i2d_g h]; exact (gI_ok h).1)
theorem ord_rf (D : FP.Core.Datum) : FP.Core.order D D = none ∨ FP.Core.order D D = some .eq := by
  cases D with
  | nan => exact Or.inl rfl
  | inf s => right; simp [FP.Core.order]
  | fin s c q => right; simp [FP.Core.order]
theorem dcm_rf (x : UInt64) : FP.dcmp x x = none ∨ FP.dcmp x x = some .eq := ord_rf _
