/-! a float that is no NaN is a double that is none -/
theorem fdiv_le {a b : Nat} (ha : a ≤ 1472) (hb : b ≤ 16) (hb0 : ¬ b = 0) : (FP.fdiv (FP.i2f (nI a)) (FP.i2f (nI b))).toNat ≤ 2139095040 := by
  obtain ⟨c, q, e1⟩ := okF_e (dec_a a (by omega))
  obtain ⟨d, r, e2, hd⟩ := okZ_e (dec_b b (by omega) hb0)
  have h : Jvm.FP.Core.div Jvm.FP.Core.b32 (FP.i2f (nI a)).toNat (FP.i2f (nI b)).toNat ≤ 2139095040 := by
    unfold Jvm.FP.Core.div
    rw [e1, e2]
    exact quo_le c d q r hd
  show (UInt32.ofNat (Jvm.FP.Core.div Jvm.FP.Core.b32 (FP.i2f (nI a)).toNat (FP.i2f (nI b)).toNat)).toNat ≤ 2139095040
  generalize Jvm.FP.Core.div Jvm.FP.Core.b32 (FP.i2f (nI a)).toNat (FP.i2f (nI b)).toNat = n at h
  show n % 4294967296 ≤ 2139095040
  omega
theorem enc_le6 {c : Nat} {q : Int} (hc : c < 9007199254740992) (hq : q ≤ 971) : Jvm.FP.Core.encode Jvm.FP.Core.b64 (.fin false c q) ≤ 9218868437227405312 := by
  have t : Jvm.FP.Core.b64.tails = 4503599627370496 := rfl
  have x : Jvm.FP.Core.b64.exps = 2048 := rfl
  have qm : Jvm.FP.Core.b64.qmin = -1074 := rfl
  show (if c < Jvm.FP.Core.b64.tails then Jvm.FP.Core.assemble Jvm.FP.Core.b64 false 0 c else Jvm.FP.Core.assemble Jvm.FP.Core.b64 false ((q - Jvm.FP.Core.b64.qmin).toNat + 1) (c - Jvm.FP.Core.b64.tails)) ≤ 9218868437227405312
  split
  · rename_i h
    rw [t] at h
    unfold Jvm.FP.Core.assemble
    rw [t, x]
    simp only [Bool.toNat_false]
    omega
  · rename_i h
    rw [t] at h
    unfold Jvm.FP.Core.assemble
    rw [t, x, qm]
    simp only [Bool.toNat_false]
    omega
theorem settle_le6 (c : Nat) (q : Int) : Jvm.FP.Core.encode Jvm.FP.Core.b64 (Jvm.FP.Core.settle Jvm.FP.Core.b64 false c q) ≤ 9218868437227405312 := by
  have bd : ∀ (c : Nat) (q : Int), c < 9007199254740992 → Jvm.FP.Core.encode Jvm.FP.Core.b64 (Jvm.FP.Core.bound Jvm.FP.Core.b64 false c q) ≤ 9218868437227405312 := fun c q hc => by
    unfold Jvm.FP.Core.bound
    split
    · rename_i h; exact enc_le6 hc (show q ≤ 971 from h)
    · exact Nat.le_of_ble_eq_true rfl
  unfold Jvm.FP.Core.settle
  split
  · rename_i h; exact bd c q h
  · exact bd _ _ (Nat.lt_of_lt_of_le (show Jvm.FP.Core.b64.tails < 9007199254740992 from by decide +kernel) (Nat.le_refl _))
theorem dec_n {n : Nat} (h : n ≤ 2139095040) : Jvm.FP.Core.decode Jvm.FP.Core.b32 n = .inf false ∨ ∃ c q, Jvm.FP.Core.decode Jvm.FP.Core.b32 n = .fin false c q := by
  have t : Jvm.FP.Core.b32.tails = 8388608 := rfl
  have x : Jvm.FP.Core.b32.exps = 256 := rfl
  have s : Jvm.FP.Core.fieldS Jvm.FP.Core.b32 n = false := by
    unfold Jvm.FP.Core.fieldS
    rw [t, x, show n / 8388608 / 256 % 2 = 0 by omega]
    rfl
  unfold Jvm.FP.Core.decode
  rw [s]
  split
  · rename_i e
    unfold Jvm.FP.Core.fieldE at e
    rw [t, x] at e
    have : Jvm.FP.Core.fieldT Jvm.FP.Core.b32 n = 0 := by
      unfold Jvm.FP.Core.fieldT
      rw [t]
      omega
    rw [if_pos this]
    exact Or.inl rfl
  · split
    · exact Or.inr ⟨_, _, rfl⟩
    · exact Or.inr ⟨_, _, rfl⟩
theorem f2d_n {x : UInt32} (h : x.toNat ≤ 2139095040) : vf_n64 (FP.f2d x) := by
  have k : Jvm.FP.Core.fIsNaN x = false ∧ Jvm.FP.Core.convert Jvm.FP.Core.b32 Jvm.FP.Core.b64 x.toNat ≤ 9218868437227405312 := by
    unfold Jvm.FP.Core.fIsNaN Jvm.FP.Core.isNaN Jvm.FP.Core.convert
    rcases dec_n h with e | ⟨c, q, e⟩
    · rw [e]
      exact ⟨by decide, Nat.le_of_ble_eq_true rfl⟩
    · rw [e]
      refine ⟨decide_eq_false (fun z => by cases z), ?_⟩
      show Jvm.FP.Core.encode Jvm.FP.Core.b64 (Jvm.FP.Core.roundRatio Jvm.FP.Core.b64 false c 1 q) ≤ 9218868437227405312
      unfold Jvm.FP.Core.roundRatio
      split
      · exact enc_le6 (by omega) (show (-1074 : Int) ≤ 971 by omega)
      · exact settle_le6 _ _
  have e : FP.f2d x = UInt64.ofNat (Jvm.FP.Core.convert Jvm.FP.Core.b32 Jvm.FP.Core.b64 x.toNat) := by
    show (if Jvm.FP.Core.fIsNaN x = true then Jvm.FP.nanF2D x else Jvm.FP.Core.f2d x) = _
    rw [k.1, if_neg (by decide)]
    rfl
  unfold vf_n64
  rw [e]
  have h2 := k.2
  generalize Jvm.FP.Core.convert Jvm.FP.Core.b32 Jvm.FP.Core.b64 x.toNat = n at h2
  rw [UInt64.le_iff_toNat_le, UInt64.toNat_and]
  have e : (UInt64.ofNat n).toNat = n := by
    show n % 18446744073709551616 = n
    omega
  rw [e]
  exact Nat.le_trans Nat.and_le_left h2
