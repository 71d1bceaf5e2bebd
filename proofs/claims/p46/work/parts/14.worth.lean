theorem lowF_c (p : Nat → Bool) (n : Nat) : ∀ k, k ≤ n → lowF p n k = -4 ∨ ∃ i, i < n ∧ lowF p n k = nI i ∧ p i = true
  | 0, _ => Or.inl rfl
  | k + 1, hk => by
    by_cases hp : p (n - (k + 1)) = true
    · exact Or.inr ⟨n - (k + 1), by omega, by show (if _ then _ else _) = _; rw [if_pos hp], hp⟩
    · have h1 : lowF p n (k + 1) = lowF p n k := by show (if _ then _ else _) = _; rw [if_neg hp]
      rw [h1]
      exact lowF_c p n k (by omega)
theorem lowN_c (N : Nat → Int32) (giv : Int32) (j np : Nat) : lowN N giv j np = -4 ∨ ∃ i, i < np ∧ lowN N giv j np = nI i ∧ lwB N giv j i = true := lowF_c _ np np (Nat.le_refl np)
def potF (N : Nat → Int32) (np i : Nat) (giv : Int32) : Int32 := if ¬ soldK (N (191 + 5 * i)) = 0 then -4 else lowN N giv i np
/-- what the orders are paid in turn, and the pots that are given away -/
def wF (N : Nat → Int32) (np : Nat) : Nat → Int32 × Int32
  | 0 => (0, 0)
  | i + 1 => if potF N np i (wF N np i).2 < 0 then wF N np i else ((wF N np i).1 + payK (N (64 + 8 * kOf (potF N np i (wF N np i).2))) (N (190 + 5 * i)), (wF N np i).2 ||| (1 : Int32) <<< (potF N np i (wF N np i).2 &&& 31))
theorem wF_s (N : Nat → Int32) (np i : Nat) : wF N np (i + 1) = if potF N np i (wF N np i).2 < 0 then wF N np i else ((wF N np i).1 + payK (N (64 + 8 * kOf (potF N np i (wF N np i).2))) (N (190 + 5 * i)), (wF N np i).2 ||| (1 : Int32) <<< (potF N np i (wF N np i).2 &&& 31)) := rfl
theorem potF_c {N : Nat → Int32} {np i : Nat} {giv : Int32} (hnp : np ≤ 16) (h : ¬ potF N np i giv < 0) : ∃ j, j < np ∧ potF N np i giv = nI j := by
  unfold potF at h ⊢
  split at h
  · exact absurd (by decide) h
  · rename_i hs
    rw [if_neg hs]
    rcases lowN_c N giv i np with e | ⟨j, hj, e, -⟩
    · rw [e] at h; exact absurd (by decide) h
    · exact ⟨j, hj, e⟩
theorem kOf_nI {j : Nat} (h : j < 2 ^ 31) : kOf (nI j) = j := nI_clamp h
