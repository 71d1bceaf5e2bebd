/-! ===== pure: ranks, the nearest pot, the peal, the means ===== -/
def cB (P : Nat → Bool) : Nat → Nat
  | 0 => 0
  | n + 1 => cB P n + (if P n = true then 1 else 0)
theorem cB_s (P : Nat → Bool) (n : Nat) : cB P (n + 1) = cB P n + (if P n = true then 1 else 0) := rfl
theorem cB_le (P : Nat → Bool) : ∀ n, cB P n ≤ n
  | 0 => Nat.le_refl _
  | n + 1 => by have := cB_le P n; rw [cB_s]; split <;> omega
theorem cB_mo {P Q : Nat → Bool} : ∀ n, (∀ i, i < n → P i = true → Q i = true) → cB P n ≤ cB Q n
  | 0, _ => Nat.le_refl _
  | n + 1, h => by
    have h1 := cB_mo n (fun i hi => h i (by omega))
    rw [cB_s, cB_s]
    by_cases p : P n = true
    · rw [if_pos p, if_pos (h n (by omega) p)]; omega
    · rw [if_neg p]; split <;> omega
theorem cB_lt {P Q : Nat → Bool} {j : Nat} (hq : Q j = true) (hp : P j = false) : ∀ n, j < n → (∀ i, i < n → P i = true → Q i = true) → cB P n < cB Q n
  | 0, hj, _ => absurd hj (Nat.not_lt_zero j)
  | n + 1, hj, h => by
    rw [cB_s, cB_s]
    by_cases e : j = n
    · subst e
      have h1 := cB_mo j (fun i hi => h i (by omega))
      rw [hp, if_pos hq, if_neg (by decide)]
      omega
    · have h1 := cB_lt hq hp n (by omega) (fun i hi => h i (by omega))
      by_cases p : P n = true
      · rw [if_pos p, if_pos (h n (by omega) p)]; omega
      · rw [if_neg p]; split <;> omega
theorem sm_cB {f : Nat → Int32} {P : Nat → Bool} : ∀ n, (∀ i, i < n → f i = if P i = true then 1 else 0) → sm f n = nI (cB P n)
  | 0, _ => rfl
  | n + 1, h => by
    rw [sm_s, cB_s, sm_cB n (fun i hi => h i (by omega)), h n (by omega)]
    split
    · exact nI_1 _
    · exact Int32.add_zero _
theorem dlt_e : ∀ a, a < 93 → ∀ b, b < 93 → ((0 : Int32) < nI b - nI a ↔ nI a < nI b) ∧ (nI b - nI a = 0 ↔ nI b = nI a) := by decide +kernel
theorem nlt_m1 {s : Nat} (hs : s < 2 ^ 31) : ¬ nI s < -1 := fun z => nI_pos hs (Int32.lt_trans z (by decide))
/-- q is ahead of i -/
def aB (N : Nat → Int32) (i q : Nat) : Bool := decide (soldK (N (66 + 8 * q)) = 0 ∧ (snM N i < snM N q ∨ (snM N q = snM N i ∧ q < i)))
theorem aB_t {N : Nat → Int32} {i q : Nat} : aB N i q = true ↔ soldK (N (66 + 8 * q)) = 0 ∧ (snM N i < snM N q ∨ (snM N q = snM N i ∧ q < i)) := by unfold aB; exact decide_eq_true_iff
theorem rkM_a {N : Nat → Int32} {np p j : Nat} (AP : ∀ i, i < np → PotI N i) (hnp : np ≤ 16) (hp : p < np) (hj : j < np) : rkM N p j = if aB N p j = true then 1 else 0 := by
  obtain ⟨s, e1, hs⟩ := snM_e (AP p hp)
  obtain ⟨t, e2, ht⟩ := snM_e (AP j hj)
  obtain ⟨d1, d2⟩ := dlt_e s (by omega) t (by omega)
  unfold rkM
  have e3 : (¬ nI j = nI p ∧ soldK (N (66 + 8 * j)) = 0 ∧ (0 < snM N j - snM N p ∨ (snM N j - snM N p = 0 ∧ nI j < nI p))) ↔ aB N p j = true := by
    rw [aB_t, e1, e2, d1, d2, nI_eq (a := j) (b := p) (by omega) (by omega), nI_ltI (a := j) (b := p) (by omega) (by omega)]
    constructor
    · rintro ⟨a, b, c⟩; exact ⟨b, c⟩
    · rintro ⟨b, c⟩
      refine ⟨fun z => ?_, b, c⟩
      subst z
      rcases c with c | ⟨-, c⟩
      · have e : nI s = nI t := e1.symm.trans e2
        rw [e] at c
        exact Int32.lt_irrefl c
      · exact absurd c (Nat.lt_irrefl _)
  by_cases q : aB N p j = true
  · rw [if_pos q, if_pos (e3.mpr q)]
  · rw [if_neg q, if_neg (fun z => q (e3.mp z))]
theorem ahI_a {N f0 : Nat → Int32} {np p j : Nat} (AP : ∀ i, i < np → PotI N i) (hnp : np ≤ 16) (hp : p < np) (hj : j < np) (q : soldK (N (66 + 8 * p)) = 0) : ahI (lsF N f0 np) p j = if aB N p j = true then 1 else 0 := by
  obtain ⟨s, e1, hs⟩ := snM_e (AP p hp)
  have e3 : (lsF N f0 np p < lsF N f0 np j ∨ (lsF N f0 np j = lsF N f0 np p ∧ nI j < nI p)) ↔ aB N p j = true := by
    rw [aB_t, ls_0 hp, ls_0 hj, sn_y q, nI_ltI (a := j) (b := p) (by omega) (by omega)]
    by_cases q2 : soldK (N (66 + 8 * j)) = 0
    · rw [sn_y q2]; simp [q2]
    · rw [sn_n q2, e1]
      constructor
      · rintro (a | ⟨a, -⟩)
        · exact absurd a (nlt_m1 (by omega))
        · exact absurd a.symm (nI_n1 (by omega))
      · rintro ⟨a, -⟩; exact absurd a q2
  unfold ahI
  by_cases q3 : aB N p j = true
  · rw [if_pos q3, if_pos (e3.mpr q3)]
  · rw [if_neg q3, if_neg (fun z => q3 (e3.mp z))]
theorem rk_n {N : Nat → Int32} {np p : Nat} (AP : ∀ i, i < np → PotI N i) (hnp : np ≤ 16) (hp : p < np) : sm (rkM N p) np = nI (cB (aB N p) np) := sm_cB np (fun j hj => rkM_a AP hnp hp hj)
theorem ah_n {N f0 : Nat → Int32} {np p : Nat} (AP : ∀ i, i < np → PotI N i) (hnp : np ≤ 16) (hp : p < np) (q : soldK (N (66 + 8 * p)) = 0) : sm (ahI (lsF N f0 np) p) np = nI (cB (aB N p) np) := sm_cB np (fun j hj => ahI_a AP hnp hp hj q)
theorem aB_lt {N : Nat → Int32} {np i j : Nat} (hi : i < np) (h : aB N j i = true) : cB (aB N i) np < cB (aB N j) np := by
  refine cB_lt (j := i) h ?_ np hi (fun q hq hq2 => ?_)
  · refine Bool.eq_false_iff.mpr (fun z => ?_)
    rcases (aB_t.mp z).2 with c | ⟨-, c⟩
    · exact Int32.lt_irrefl c
    · exact Nat.lt_irrefl _ c
  · obtain ⟨a, b⟩ := aB_t.mp h
    obtain ⟨a2, b2⟩ := aB_t.mp hq2
    refine aB_t.mpr ⟨a2, ?_⟩
    rcases b with b | ⟨b, c⟩
    · rcases b2 with b2 | ⟨b2, c2⟩
      · exact Or.inl (Int32.lt_trans b b2)
      · exact Or.inl (by rw [b2]; exact b)
    · rcases b2 with b2 | ⟨b2, c2⟩
      · exact Or.inl (by rw [← b]; exact b2)
      · exact Or.inr ⟨b2.trans b, by omega⟩
theorem rk_un {N : Nat → Int32} {np i j : Nat} (AP : ∀ i, i < np → PotI N i) (hi : i < np) (hj : j < np) (qi : soldK (N (66 + 8 * i)) = 0) (qj : soldK (N (66 + 8 * j)) = 0) (e : cB (aB N i) np = cB (aB N j) np) : i = j := by
  refine Classical.byContradiction fun n => ?_
  have key : aB N j i = true ∨ aB N i j = true := by
    obtain ⟨s, e1, hs⟩ := snM_e (AP i hi)
    obtain ⟨t, e2, ht⟩ := snM_e (AP j hj)
    rw [aB_t, aB_t, e1, e2]
    rcases Nat.lt_trichotomy s t with z | z | z
    · exact Or.inr ⟨qj, Or.inl (nI_lt z (by omega))⟩
    · subst z
      rcases Nat.lt_or_gt_of_ne n with y | y
      · exact Or.inl ⟨qi, Or.inr ⟨rfl, y⟩⟩
      · exact Or.inr ⟨qj, Or.inr ⟨rfl, y⟩⟩
    · exact Or.inl ⟨qi, Or.inl (nI_lt z (by omega))⟩
  rcases key with k | k
  · have := aB_lt hi k; omega
  · have := aB_lt hj k; omega
def okR (N : Nat → Int32) (np : Nat) (x : Int32) (i : Nat) : Bool := decide (soldK (N (66 + 8 * i)) = 0 ∧ sm (rkM N i) np = x)
theorem fdM_L (N : Nat → Int32) (np : Nat) (x : Int32) : ∀ n, (fdM N np x n = -1 ∧ ∀ i, i < n → okR N np x i = false) ∨ ∃ i, i < n ∧ okR N np x i = true ∧ fdM N np x n = nI i
  | 0 => Or.inl ⟨rfl, fun i hi => absurd hi (Nat.not_lt_zero i)⟩
  | n + 1 => by
    rw [fdM_s]
    by_cases q : soldK (N (66 + 8 * n)) = 0 ∧ sm (rkM N n) np = x
    · rw [if_pos q]; exact Or.inr ⟨n, by omega, decide_eq_true q, rfl⟩
    · rw [if_neg q]
      rcases fdM_L N np x n with ⟨h1, h2⟩ | ⟨i, h1, h2, h3⟩
      · refine Or.inl ⟨h1, fun i hi => ?_⟩
        rcases Nat.lt_or_ge i n with z | z
        · exact h2 i z
        · rw [show i = n by omega]; exact decide_eq_false q
      · exact Or.inr ⟨i, by omega, h2, h3⟩
theorem ranked_e {N f0 : Nat → Int32} {np : Nat} (AP : ∀ i, i < np → PotI N i) (hnp : np ≤ 16) (x : Int32) : plS (lsF N f0 np) np x = fdM N np x np := by
  have h1 : Fst (okR N np x) np (-1) (plS (lsF N f0 np) np x) := by
    unfold plS
    refine (lowD_F _ _ _).cg (fun i hi => ?_)
    unfold okR
    rw [ls_0 hi]
    by_cases q : soldK (N (66 + 8 * i)) = 0
    · have g := (sn_ge (AP i hi)).mpr q
      rw [ah_n AP hnp hi q, rk_n AP hnp hi, decide_eq_true (Int32.not_lt.mpr g), Bool.true_and]
      simp [q]
    · rw [sn_n q, decide_eq_false (show ¬ ¬ (-1 : Int32) < 0 by decide), Bool.false_and, decide_eq_false (fun z => q z.1)]
  have h2 : Fst (okR N np x) np (-1) (fdM N np x np) := by
    rcases fdM_L N np x np with ⟨h1, h2⟩ | ⟨i, h1, h2, h3⟩
    · exact Or.inl ⟨h1, h2⟩
    · refine Or.inr ⟨i, h1, h2, fun j hj => Bool.eq_false_iff.mpr (fun z => ?_), h3⟩
      obtain ⟨a1, a2⟩ := of_decide_eq_true h2
      obtain ⟨b1, b2⟩ := of_decide_eq_true z
      rw [rk_n AP hnp h1] at a2
      rw [rk_n AP hnp (show j < np by omega)] at b2
      have l1 := cB_le (aB N i) np
      have l2 := cB_le (aB N j) np
      have e := (nI_eq (by omega) (by omega)).mp (a2.trans b2.symm)
      have := rk_un AP h1 (show j < np by omega) a1 b1 e
      omega
  exact h1.un h2
theorem near_e {N f0 : Nat → Int32} {np : Nat} (AP : ∀ i, i < np → PotI N i) (hnp : np ≤ 16) (x : Int32) : ∀ n, n ≤ np → clS (lsF N f0 np) x n = nrM N x n ∧ (clS (lsF N f0 np) x n = -4 ∨ ∃ b, b < n ∧ soldK (N (66 + 8 * b)) = 0 ∧ clS (lsF N f0 np) x n = nI b)
  | 0, _ => ⟨rfl, Or.inl rfl⟩
  | n + 1, hn => by
    obtain ⟨e1, e2⟩ := near_e AP hnp x n (by omega)
    rw [nrM_s, clS]
    rw [ls_0 (show n < np by omega)]
    by_cases q : soldK (N (66 + 8 * n)) = 0
    · have g := (sn_ge (AP n (by omega))).mpr q
      rw [sn_y q] at g ⊢
      rcases e2 with e2 | ⟨b, hb, qb, e2⟩
      · rw [← e1, e2, if_pos ⟨g, Or.inl (by decide)⟩, if_pos ⟨q, Or.inl rfl⟩]
        exact ⟨rfl, Or.inr ⟨n, by omega, q, rfl⟩⟩
      · have hk : kOf (nI b) = b := kOf_nI (by omega)
        rw [← e1, e2, hk, ls_0 (show b < np by omega), sn_y qb]
        by_cases c : ab (snM N n - x) < ab (snM N b - x)
        · rw [if_pos ⟨g, Or.inr c⟩, if_pos ⟨q, Or.inr c⟩]
          exact ⟨rfl, Or.inr ⟨n, by omega, q, rfl⟩⟩
        · rw [if_neg (fun z => z.2.elim (nI_pos (by omega)) c), if_neg (fun z => z.2.elim (soldK_nI (by omega)).2 c)]
          exact ⟨rfl, Or.inr ⟨b, by omega, qb, rfl⟩⟩
    · rw [sn_n q, if_neg (fun z => absurd z.1 (by decide)), if_neg (fun z => q z.1)]
      refine ⟨e1, ?_⟩
      rcases e2 with e2 | ⟨b, hb, qb, e2⟩
      · exact Or.inl e2
      · exact Or.inr ⟨b, by omega, qb, e2⟩
theorem la_e {N f0 : Nat → Int32} {np : Nat} {x : Int32} (hx : ¬ x < -1) : ∀ n, n ≤ np → laS (lsF N f0 np) x n = nxM N x n
  | 0, _ => rfl
  | n + 1, hn => by
    rw [nxM_s, laS, la_e hx n (by omega), ls_0 (show n < np by omega)]
    by_cases q : soldK (N (66 + 8 * n)) = 0
    · rw [sn_y q]; simp [q]
    · rw [sn_n q, if_neg (fun z => hx z.1), if_neg (fun z => q z.1.1)]
theorem nx_c (N : Nat → Int32) (x : Int32) : ∀ n, nxM N x n = -1 ∨ ∃ b, b < n ∧ soldK (N (66 + 8 * b)) = 0 ∧ x < snM N b ∧ nxM N x n = snM N b
  | 0 => Or.inl rfl
  | n + 1 => by
    rw [nxM_s]
    by_cases q : (soldK (N (66 + 8 * n)) = 0 ∧ x < snM N n) ∧ (nxM N x n = -1 ∨ snM N n < nxM N x n)
    · rw [if_pos q]; exact Or.inr ⟨n, by omega, q.1.1, q.1.2, rfl⟩
    · rw [if_neg q]
      rcases nx_c N x n with h | ⟨b, h1, h2⟩
      · exact Or.inl h
      · exact Or.inr ⟨b, by omega, h2⟩
theorem nx_ge {N : Nat → Int32} {np : Nat} (AP : ∀ i, i < np → PotI N i) (x : Int32) : ¬ nxM N x np < -1 := by
  rcases nx_c N x np with h | ⟨b, h1, h2, h3, h4⟩
  · rw [h]; exact Int32.lt_irrefl
  · obtain ⟨s, e, hs⟩ := snM_e (AP b h1)
    rw [h4, e]
    exact nlt_m1 (by omega)
theorem cM_ge {N : Nat → Int32} {np : Nat} (AP : ∀ i, i < np → PotI N i) : ∀ i, ¬ cM N np i < -1
  | 0 => nx_ge AP _
  | i + 1 => nx_ge AP _
theorem ch_e {N f0 : Nat → Int32} {np : Nat} (AP : ∀ i, i < np → PotI N i) : ∀ i, chL (lsF N f0 np) np i = cM N np i
  | 0 => la_e (show ¬ (-1 : Int32) < -1 from Int32.lt_irrefl) np (Nat.le_refl np)
  | i + 1 => by
    show laS (lsF N f0 np) (chL (lsF N f0 np) np i) np = nxM N (cM N np i) np
    rw [ch_e AP i]
    exact la_e (cM_ge AP i) np (Nat.le_refl np)
def gtB (N : Nat → Int32) (y : Int32) (p : Nat) : Bool := decide (soldK (N (66 + 8 * p)) = 0 ∧ y < snM N p)
theorem gt_lt {N : Nat → Int32} {np : Nat} {x : Int32} (h : ¬ nxM N x np = -1) : cB (gtB N (nxM N x np)) np < cB (gtB N x) np := by
  rcases nx_c N x np with h1 | ⟨b, h1, h2, h3, h4⟩
  · exact absurd h1 h
  · rw [h4]
    refine cB_lt (j := b) (decide_eq_true ⟨h2, h3⟩) (decide_eq_false (fun z => Int32.lt_irrefl z.2)) np h1 (fun i hi hi2 => ?_)
    obtain ⟨a, b⟩ := of_decide_eq_true hi2
    exact decide_eq_true ⟨a, Int32.lt_trans h3 b⟩
theorem cM_n {N : Nat → Int32} {np : Nat} : ∀ i, (∀ j, j ≤ i → ¬ cM N np j = -1) → cB (gtB N (cM N np i)) np + (i + 1) ≤ np
  | 0, h => by
    have h1 := gt_lt (N := N) (np := np) (x := -1) (h 0 (Nat.le_refl 0))
    have h2 := cB_le (gtB N (-1)) np
    show cB (gtB N (nxM N (-1) np)) np + 1 ≤ np
    omega
  | i + 1, h => by
    have h0 := cM_n i (fun j hj => h j (by omega))
    have h1 := gt_lt (N := N) (np := np) (x := cM N np i) (h (i + 1) (Nat.le_refl _))
    show cB (gtB N (nxM N (cM N np i) np)) np + (i + 1 + 1) ≤ np
    omega
theorem peal_e {N f0 : Nat → Int32} {np : Nat} (AP : ∀ i, i < np → PotI N i) (hnp : np ≤ 16) {x : Int32} (hx : 0 ≤ x) : ∃ m, m ≤ 16 ∧ chS (lsF N f0 np) np x = nI m ∧ (∀ i, i < m → ¬ cM N np i = -1 ∧ cM N np i - cM N np (i - 1) ≤ x) ∧ (cM N np m = -1 ∨ (¬ cM N np m = -1 ∧ ¬ cM N np m - cM N np (m - 1) ≤ x)) := by
  have e0 : laS (lsF N f0 np) (-1) np = cM N np 0 := ch_e AP 0
  unfold chS
  rw [e0]
  by_cases q : cM N np 0 = -1
  · rw [if_pos q]; exact ⟨0, by omega, rfl, fun i hi => absurd hi (Nat.not_lt_zero i), Or.inl q⟩
  · rw [if_neg q]
    have h00 : cM N np 0 - cM N np (0 - 1) ≤ x := by
      show cM N np 0 - cM N np 0 ≤ x
      rw [Int32.sub_self]
      exact hx
    have hnp1 : 1 ≤ np := by
      rcases Nat.eq_zero_or_pos np with z | z
      · exact absurd (by rw [z]; rfl) q
      · exact z
    have pf : ∀ i, decide (chL (lsF N f0 np) np i = -1 ∨ ¬ chL (lsF N f0 np) np i - chL (lsF N f0 np) np (i - 1) ≤ x) = false → ¬ cM N np i = -1 ∧ cM N np i - cM N np (i - 1) ≤ x := fun i h => by
      rw [ch_e AP, ch_e AP] at h
      have h2 := of_decide_eq_false h
      exact ⟨fun z => h2 (Or.inl z), Classical.byContradiction fun z => h2 (Or.inr z)⟩
    rcases lowD_f (nI np) (fun i => decide (chL (lsF N f0 np) np i = -1 ∨ ¬ chL (lsF N f0 np) np i - chL (lsF N f0 np) np (i - 1) ≤ x)) np (np - 1) (by omega) with ⟨h1, h2⟩ | ⟨i, h1, h2, h3, h4, h5⟩
    · have all : ∀ i, i < np → ¬ cM N np i = -1 ∧ cM N np i - cM N np (i - 1) ≤ x := fun i hi => by
        rcases Nat.eq_zero_or_pos i with z | z
        · subst z; exact ⟨q, h00⟩
        · exact pf i (h2 i (by omega) hi)
      refine ⟨np, hnp, h1, all, Or.inl (Classical.byContradiction fun z => ?_)⟩
      have := cM_n (N := N) (np := np) np (fun j hj => by
        rcases Nat.lt_or_ge j np with y | y
        · exact (all j y).1
        · rw [show j = np by omega]; exact z)
      omega
    · refine ⟨i, by omega, h5, fun j hj => ?_, ?_⟩
      · rcases Nat.eq_zero_or_pos j with z | z
        · subst z; exact ⟨q, h00⟩
        · exact pf j (h4 j (by omega) hj)
      · have h6 := of_decide_eq_true h3
        rw [ch_e AP, ch_e AP] at h6
        by_cases z : cM N np i = -1
        · exact Or.inl z
        · exact Or.inr ⟨z, h6.elim (fun y => absurd y z) id⟩
/-! means -/
theorem ms_e {N f0 : Nat → Int32} {np : Nat} (AP : ∀ i, i < np → PotI N i) : msS (lsF N f0 np) np = sm (fun i => (if soldK (N (66 + 8 * i)) = 0 then (1 : Int32) else 0) * ringK (kOf (N (60 + 8 * i))) (N (61 + 8 * i)) (N (62 + 8 * i)) (N (63 + 8 * i))) np := sm_cg (fun i hi => by
  rw [ls_0 hi]
  by_cases q : soldK (N (66 + 8 * i)) = 0
  · have g := (sn_ge (AP i hi)).mpr q
    rw [if_neg (Int32.not_lt.mpr g), if_pos q, Int32.one_mul, sn_y q]
    rfl
  · rw [sn_n q, if_pos (by decide), if_neg q, Int32.zero_mul])
theorem mr_e {N f0 : Nat → Int32} {np : Nat} (AP : ∀ i, i < np → PotI N i) : mrS (lsF N f0 np) np = sm (fun i => if soldK (N (66 + 8 * i)) = 0 then (1 : Int32) else 0) np := sm_cg (fun i hi => by
  rw [ls_0 hi]
  by_cases q : soldK (N (66 + 8 * i)) = 0
  · have g := (sn_ge (AP i hi)).mpr q
    rw [if_neg (Int32.not_lt.mpr g), if_pos q]
  · rw [sn_n q, if_pos (by decide), if_neg q])
def sumN (f : Nat → Nat) : Nat → Nat
  | 0 => 0
  | n + 1 => sumN f n + f n
theorem sm_N {f : Nat → Int32} {B : Nat} : ∀ n, (∀ i, i < n → ∃ s, f i = nI s ∧ s ≤ B) → ∃ s, sm f n = nI s ∧ s ≤ n * B
  | 0, _ => ⟨0, rfl, by omega⟩
  | n + 1, h => by
    obtain ⟨s, e, hs⟩ := sm_N n (fun i hi => h i (by omega))
    obtain ⟨t, e2, ht⟩ := h n (by omega)
    exact ⟨s + t, by rw [sm_s, e, e2]; exact nI_add s t, by rw [Nat.succ_mul]; omega⟩
theorem ms_n {N : Nat → Int32} {np : Nat} (AP : ∀ i, i < np → PotI N i) (hnp : np ≤ 16) : ∃ s, sm (fun i => (if soldK (N (66 + 8 * i)) = 0 then (1 : Int32) else 0) * ringK (kOf (N (60 + 8 * i))) (N (61 + 8 * i)) (N (62 + 8 * i)) (N (63 + 8 * i))) np = nI s ∧ s ≤ 1472 := by
  obtain ⟨s, e, hs⟩ := sm_N (f := fun i => (if soldK (N (66 + 8 * i)) = 0 then (1 : Int32) else 0) * ringK (kOf (N (60 + 8 * i))) (N (61 + 8 * i)) (N (62 + 8 * i)) (N (63 + 8 * i))) (B := 92) np (fun i hi => by
    show ∃ s, (if soldK (N (66 + 8 * i)) = 0 then (1 : Int32) else 0) * ringK (kOf (N (60 + 8 * i))) (N (61 + 8 * i)) (N (62 + 8 * i)) (N (63 + 8 * i)) = nI s ∧ s ≤ 92
    obtain ⟨s, e, hs⟩ := snM_e (AP i hi)
    by_cases q : soldK (N (66 + 8 * i)) = 0
    · rw [if_pos q, Int32.one_mul]; exact ⟨s, e, hs⟩
    · rw [if_neg q, Int32.zero_mul]; exact ⟨0, rfl, by omega⟩)
  exact ⟨s, e, by have := Nat.mul_le_mul_right 92 hnp; omega⟩
theorem mrn_e {N : Nat → Int32} {np : Nat} (hnp : np ≤ 16) : ∃ s, sm (fun i => if soldK (N (66 + 8 * i)) = 0 then (1 : Int32) else 0) np = nI s ∧ s ≤ 16 := by
  obtain ⟨s, e, hs⟩ := sm_N (f := fun i => if soldK (N (66 + 8 * i)) = 0 then (1 : Int32) else 0) (B := 1) np (fun i hi => by
    show ∃ s, (if soldK (N (66 + 8 * i)) = 0 then (1 : Int32) else 0) = nI s ∧ s ≤ 1
    by_cases q : soldK (N (66 + 8 * i)) = 0
    · rw [if_pos q]; exact ⟨1, rfl, by omega⟩
    · rw [if_neg q]; exact ⟨0, rfl, by omega⟩)
  exact ⟨s, e, by omega⟩
theorem so_n {N : Nat → Int32} {np : Nat} (hnp : np ≤ 16) : ∃ s, sm (fun i => soldK (N (66 + 8 * i))) np = nI s ∧ s ≤ 16 := by
  obtain ⟨s, e, hs⟩ := sm_N (f := fun i => soldK (N (66 + 8 * i))) (B := 1) np (fun i hi => by
    show ∃ s, soldK (N (66 + 8 * i)) = nI s ∧ s ≤ 1
    unfold soldK
    split
    · exact ⟨0, rfl, by omega⟩
    · exact ⟨1, rfl, by omega⟩)
  exact ⟨s, e, by omega⟩
/-- those in the shop are all but those that are sold -/
theorem shop_e (N : Nat → Int32) : ∀ np, sm (fun i => if soldK (N (66 + 8 * i)) = 0 then (1 : Int32) else 0) np + sm (fun i => soldK (N (66 + 8 * i))) np = nI np
  | 0 => rfl
  | n + 1 => by
    rw [sm_s, sm_s, ← nI_1, ← shop_e N n]
    by_cases q : soldK (N (66 + 8 * n)) = 0
    · rw [if_pos q, q]; ac_rfl
    · have e : soldK (N (66 + 8 * n)) = 1 := by
        unfold soldK at q ⊢
        split at q
        · exact absurd rfl q
        · rename_i z; exact if_neg z
      rw [if_neg q, e]; ac_rfl
/-! no NaN -/
theorem enc_le {c : Nat} {q : Int} (hc : c < 16777216) (hq : q ≤ 104) : Jvm.FP.Core.encode Jvm.FP.Core.b32 (.fin false c q) ≤ 2139095040 := by
  have t : Jvm.FP.Core.b32.tails = 8388608 := rfl
  have x : Jvm.FP.Core.b32.exps = 256 := rfl
  have qm : Jvm.FP.Core.b32.qmin = -149 := rfl
  show (if c < Jvm.FP.Core.b32.tails then Jvm.FP.Core.assemble Jvm.FP.Core.b32 false 0 c else Jvm.FP.Core.assemble Jvm.FP.Core.b32 false ((q - Jvm.FP.Core.b32.qmin).toNat + 1) (c - Jvm.FP.Core.b32.tails)) ≤ 2139095040
  split
  · rename_i h
    rw [t] at h
    unfold Jvm.FP.Core.assemble
    rw [t, x]
    simp only [Bool.toNat_false]
    omega
  · rename_i h
    rw [t] at h
    unfold Jvm.FP.Core.assemble
    rw [t, x, qm]
    simp only [Bool.toNat_false]
    omega
theorem settle_le (c : Nat) (q : Int) : Jvm.FP.Core.encode Jvm.FP.Core.b32 (Jvm.FP.Core.settle Jvm.FP.Core.b32 false c q) ≤ 2139095040 := by
  have bd : ∀ (c : Nat) (q : Int), c < 16777216 → Jvm.FP.Core.encode Jvm.FP.Core.b32 (Jvm.FP.Core.bound Jvm.FP.Core.b32 false c q) ≤ 2139095040 := fun c q hc => by
    unfold Jvm.FP.Core.bound
    split
    · rename_i h; exact enc_le hc (show q ≤ 104 from h)
    · exact Nat.le_of_ble_eq_true rfl
  unfold Jvm.FP.Core.settle
  split
  · rename_i h; exact bd c q h
  · exact bd _ _ (Nat.lt_of_lt_of_le (show Jvm.FP.Core.b32.tails < 16777216 from by decide +kernel) (Nat.le_refl _))
theorem quo_le (c d : Nat) (q r : Int) (hd : ¬ d = 0) : Jvm.FP.Core.encode Jvm.FP.Core.b32 (Jvm.FP.Core.quotient Jvm.FP.Core.b32 (.fin false c q) (.fin false d r)) ≤ 2139095040 := by
  show Jvm.FP.Core.encode Jvm.FP.Core.b32 (if d = 0 then (if c = 0 then .nan else .inf (false != false)) else Jvm.FP.Core.roundRatio Jvm.FP.Core.b32 (false != false) c d (q - r)) ≤ 2139095040
  rw [if_neg hd]
  show Jvm.FP.Core.encode Jvm.FP.Core.b32 (Jvm.FP.Core.roundRatio Jvm.FP.Core.b32 false c d (q - r)) ≤ 2139095040
  unfold Jvm.FP.Core.roundRatio
  split
  · exact enc_le (by omega) (show (-149 : Int) ≤ 104 by omega)
  · exact settle_le _ _
def okF (d : Jvm.FP.Core.Datum) : Bool := match d with
  | .fin s _ _ => !s
  | _ => false
def okZ (d : Jvm.FP.Core.Datum) : Bool := match d with
  | .fin s c _ => !s && c != 0
  | _ => false
theorem okF_e {d : Jvm.FP.Core.Datum} (h : okF d = true) : ∃ c q, d = .fin false c q := by
  cases d with
  | nan => cases h
  | inf s => cases h
  | fin s c q => cases s with
    | true => cases h
    | false => exact ⟨c, q, rfl⟩
theorem okZ_e {d : Jvm.FP.Core.Datum} (h : okZ d = true) : ∃ c q, d = .fin false c q ∧ ¬ c = 0 := by
  cases d with
  | nan => cases h
  | inf s => cases h
  | fin s c q => cases s with
    | true => cases h
    | false =>
      refine ⟨c, q, rfl, fun z => ?_⟩
      subst z
      cases h
theorem dec_a : ∀ a, a < 1473 → okF (Jvm.FP.Core.decode Jvm.FP.Core.b32 (FP.i2f (nI a)).toNat) = true := by decide +kernel
theorem dec_b : ∀ a, a < 17 → ¬ a = 0 → okZ (Jvm.FP.Core.decode Jvm.FP.Core.b32 (FP.i2f (nI a)).toNat) = true := by decide +kernel
theorem fdiv_n {a b : Nat} (ha : a ≤ 1472) (hb : b ≤ 16) (hb0 : ¬ b = 0) : vf_n32 (FP.fdiv (FP.i2f (nI a)) (FP.i2f (nI b))) := by
  obtain ⟨c, q, e1⟩ := okF_e (dec_a a (by omega))
  obtain ⟨d, r, e2, hd⟩ := okZ_e (dec_b b (by omega) hb0)
  have h : Jvm.FP.Core.div Jvm.FP.Core.b32 (FP.i2f (nI a)).toNat (FP.i2f (nI b)).toNat ≤ 2139095040 := by
    unfold Jvm.FP.Core.div
    rw [e1, e2]
    exact quo_le c d q r hd
  unfold vf_n32
  show UInt32.ofNat (Jvm.FP.Core.div Jvm.FP.Core.b32 (FP.i2f (nI a)).toNat (FP.i2f (nI b)).toNat) &&& 2147483647 ≤ 2139095040
  generalize Jvm.FP.Core.div Jvm.FP.Core.b32 (FP.i2f (nI a)).toNat (FP.i2f (nI b)).toNat = n at h
  rw [UInt32.le_iff_toNat_le, UInt32.toNat_and]
  have e : (UInt32.ofNat n).toNat = n := by
    show n % 4294967296 = n
    omega
  rw [e]
  exact Nat.le_trans Nat.and_le_left h
theorem ddiv_n : ∀ a, a < 17 → ∀ b, b < 17 → ¬ b = 0 → vf_n64 (FP.ddiv (FP.i2d (nI a)) (FP.i2d (nI b))) := by
  unfold vf_n64
  decide +kernel
