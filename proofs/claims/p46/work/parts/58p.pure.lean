/-! ===== pure: ranks of pots, the nearest one, the peal, as the law asks of them ===== -/
def shB (N : Nat → Int32) (i : Nat) : Bool := decide (soldK (N (66 + 8 * i)) = 0)
/-- how many pots are in the shop -/
def shN (N : Nat → Int32) (np : Nat) : Nat := cB (shB N) np
theorem shB_t {N : Nat → Int32} {i : Nat} : shB N i = true ↔ soldK (N (66 + 8 * i)) = 0 := by unfold shB; exact decide_eq_true_iff
theorem inS_e (N : Nat → Int32) (i : Nat) : inS N i = if shB N i = true then 1 else 0 := by
  unfold inS
  rw [sold_i]
  by_cases h : soldK (N (66 + 8 * i)) = 0
  · rw [if_pos h, if_pos (shB_t.mpr h)]
  · rw [if_neg h, if_neg (fun z => h (shB_t.mp z))]
theorem inS_1 {N : Nat → Int32} {i : Nat} (h : soldK (N (66 + 8 * i)) = 0) : ¬ inS N i = 0 := by
  rw [inS_e, if_pos (shB_t.mpr h)]; decide
theorem inS_0 {N : Nat → Int32} {i : Nat} (h : ¬ inS N i = 0) : soldK (N (66 + 8 * i)) = 0 := by
  refine Classical.byContradiction fun z => h ?_
  rw [inS_e, if_neg (fun y => z (shB_t.mp y))]
theorem shN_e {N : Nat → Int32} {ns np no : Nat} (R : RI N ns np no) : N 3 - sm (fun i => soldK (N (191 + 5 * i))) no = nI (shN N np) := by
  rw [← (shop_n R).1]
  exact sm_cB np (fun i hi => inS_e N i)
theorem shN_le (N : Nat → Int32) (np : Nat) : shN N np ≤ np := cB_le _ np
theorem rank_lt {N : Nat → Int32} {np i : Nat} (hi : i < np) (u : soldK (N (66 + 8 * i)) = 0) : cB (aB N i) np < shN N np := by
  refine cB_lt (j := i) (shB_t.mpr u) ?_ np hi (fun q hq h => shB_t.mpr (aB_t.mp h).1)
  refine Bool.eq_false_iff.mpr (fun z => ?_)
  rcases (aB_t.mp z).2 with c | ⟨-, c⟩
  · exact Int32.lt_irrefl c
  · exact Nat.lt_irrefl _ c
theorem aB_or {N : Nat → Int32} {np i j : Nat} (AP : ∀ i, i < np → PotI N i) (hi : i < np) (hj : j < np) (qi : soldK (N (66 + 8 * i)) = 0) (qj : soldK (N (66 + 8 * j)) = 0) (n : ¬ i = j) : aB N j i = true ∨ aB N i j = true := by
  obtain ⟨s, e1, hs⟩ := snM_e (AP i hi)
  obtain ⟨t, e2, ht⟩ := snM_e (AP j hj)
  rw [aB_t, aB_t, e1, e2]
  rcases Nat.lt_trichotomy s t with z | z | z
  · exact Or.inr ⟨qj, Or.inl (nI_lt z (by omega))⟩
  · subst z
    rcases Nat.lt_or_gt_of_ne n with y | y
    · exact Or.inl ⟨qi, Or.inr ⟨rfl, y⟩⟩
    · exact Or.inr ⟨qj, Or.inr ⟨rfl, y⟩⟩
  · exact Or.inl ⟨qi, Or.inl (nI_lt z (by omega))⟩
theorem rk_o {N : Nat → Int32} {np a b : Nat} (AP : ∀ i, i < np → PotI N i) (ha : a < np) (hb : b < np) (ua : soldK (N (66 + 8 * a)) = 0) (ub : soldK (N (66 + 8 * b)) = 0) (h : cB (aB N a) np < cB (aB N b) np) : snM N b < snM N a ∨ (snM N a = snM N b ∧ a < b) := by
  have n : ¬ a = b := fun z => by rw [z] at h; exact Nat.lt_irrefl _ h
  rcases aB_or AP ha hb ua ub n with k | k
  · exact (aB_t.mp k).2
  · have := aB_lt hb k; omega
theorem cB_1 {P Q : Nat → Bool} {i0 : Nat} : ∀ n, (∀ i, i < n → Q i = true → P i = true ∨ i = i0) → cB Q n ≤ cB P n + (if i0 < n then 1 else 0)
  | 0, _ => Nat.zero_le _
  | n + 1, h => by
    have ih := cB_1 (P := P) (Q := Q) (i0 := i0) n (fun i hi => h i (by omega))
    rw [cB_s, cB_s]
    by_cases q : Q n = true
    · rw [if_pos q]
      rcases h n (by omega) q with p | e
      · rw [if_pos p]
        by_cases z : i0 < n
        · rw [if_pos z] at ih; rw [if_pos (show i0 < n + 1 by omega)]; omega
        · rw [if_neg z] at ih; split <;> omega
      · subst e
        rw [if_neg (Nat.lt_irrefl n)] at ih
        rw [if_pos (Nat.lt_succ_self n)]
        split <;> omega
    · rw [if_neg q]
      by_cases z : i0 < n
      · rw [if_pos z] at ih; rw [if_pos (show i0 < n + 1 by omega)]; split <;> omega
      · rw [if_neg z] at ih; split <;> split <;> omega
/-- every place below the number of pots in the shop is some pot's -/
theorem rank_ex {N : Nat → Int32} {np : Nat} (AP : ∀ i, i < np → PotI N i) {k : Nat} (hk : k < shN N np) : ∃ a, a < np ∧ soldK (N (66 + 8 * a)) = 0 ∧ cB (aB N a) np = k := by
  refine Classical.byContradiction fun no => ?_
  have nk : ∀ a, a < np → soldK (N (66 + 8 * a)) = 0 → ¬ cB (aB N a) np = k := fun a ha u e => no ⟨a, ha, u, e⟩
  have gt : ∀ j i, (shB N i && decide (cB (aB N i) np < j)) = true ↔ soldK (N (66 + 8 * i)) = 0 ∧ cB (aB N i) np < j := fun j i => by
    rw [Bool.and_eq_true, shB_t, decide_eq_true_iff]
  have key : ∀ j, cB (fun i => shB N i && decide (cB (aB N i) np < j)) np ≤ j ∧ (k < j → cB (fun i => shB N i && decide (cB (aB N i) np < j)) np + 1 ≤ j) := by
    intro j
    induction j with
    | zero =>
      have : cB (fun i => shB N i && decide (cB (aB N i) np < 0)) np ≤ cB (fun _ => false) np := cB_mo np (fun i hi h => absurd ((gt 0 i).mp h).2 (Nat.not_lt_zero _))
      have z : ∀ n, cB (fun _ => false) n = 0 := fun n => by
        induction n with
        | zero => rfl
        | succ n ih => rw [cB_s, ih]; rfl
      rw [z] at this
      exact ⟨this, fun h => absurd h (Nat.not_lt_zero k)⟩
    | succ j ih =>
      by_cases ex : ∃ a, a < np ∧ soldK (N (66 + 8 * a)) = 0 ∧ cB (aB N a) np = j
      · obtain ⟨a, ha, ua, ea⟩ := ex
        have hkj : ¬ j = k := fun z => nk a ha ua (ea.trans z)
        have h1 : cB (fun i => shB N i && decide (cB (aB N i) np < j + 1)) np ≤ cB (fun i => shB N i && decide (cB (aB N i) np < j)) np + (if a < np then 1 else 0) := cB_1 np (fun i hi h => by
          obtain ⟨ui, hl⟩ := (gt (j + 1) i).mp h
          by_cases e : cB (aB N i) np < j
          · exact Or.inl ((gt j i).mpr ⟨ui, e⟩)
          · exact Or.inr (rk_un AP hi ha ui ua (by omega)))
        rw [if_pos ha] at h1
        exact ⟨by omega, fun h => by have := ih.2 (by omega); omega⟩
      · have h1 : cB (fun i => shB N i && decide (cB (aB N i) np < j + 1)) np ≤ cB (fun i => shB N i && decide (cB (aB N i) np < j)) np := cB_mo np (fun i hi h => by
          obtain ⟨ui, hl⟩ := (gt (j + 1) i).mp h
          refine (gt j i).mpr ⟨ui, ?_⟩
          have : ¬ cB (aB N i) np = j := fun z => ex ⟨i, hi, ui, z⟩
          omega)
        exact ⟨by omega, fun h => by omega⟩
  have h1 := (key (shN N np)).2 hk
  have h2 : shN N np ≤ cB (fun i => shB N i && decide (cB (aB N i) np < shN N np)) np := cB_mo np (fun i hi h => (gt _ i).mpr ⟨shB_t.mp h, rank_lt hi (shB_t.mp h)⟩)
  omega
theorem pl_t {N : Nat → Int32} {np i : Nat} (AP : ∀ i, i < np → PotI N i) (hnp : np ≤ 16) (hi : i < np) (x : Int32) : (decide (¬ lz N np i < 0) && decide (sm (ahI (lz N np) i) np = x)) = true ↔ soldK (N (66 + 8 * i)) = 0 ∧ nI (cB (aB N i) np) = x := by
  rw [Bool.and_eq_true, decide_eq_true_iff, decide_eq_true_iff, show lz N np i = sndN N i from ls_0 hi, Int32.not_lt, sn_ge (AP i hi)]
  constructor
  · rintro ⟨u, e⟩; exact ⟨u, by rw [← ah_n AP hnp hi u]; exact e⟩
  · rintro ⟨u, e⟩; exact ⟨u, by rw [ah_n AP hnp hi u]; exact e⟩
theorem rk_v {N : Nat → Int32} {np a : Nat} (AP : ∀ i, i < np → PotI N i) (hnp : np ≤ 16) (ha : a < np) (ua : soldK (N (66 + 8 * a)) = 0) {k : Nat} (e : cB (aB N a) np = k) : plS (lz N np) np (nI k) = nI a := by
  subst e
  rcases lowD_F (-1) (fun i => decide (¬ lz N np i < 0) && decide (sm (ahI (lz N np) i) np = nI (cB (aB N a) np))) np with ⟨-, h⟩ | ⟨i, hi, h1, -, h2⟩
  · have := (pl_t AP hnp ha (nI (cB (aB N a) np))).mpr ⟨ua, rfl⟩
    exact absurd ((h a ha).symm.trans this) (by decide)
  · obtain ⟨ui, e⟩ := (pl_t AP hnp hi _).mp h1
    have l1 := cB_le (aB N i) np
    have l2 := cB_le (aB N a) np
    have := rk_un AP hi ha ui ua ((nI_eq (by omega) (by omega)).mp e)
    rw [this] at h2
    exact h2
theorem rk_0 {N : Nat → Int32} {np : Nat} (AP : ∀ i, i < np → PotI N i) (hnp : np ≤ 16) : plS (lz N np) np (nI (shN N np)) = -1 := by
  rcases lowD_F (-1) (fun i => decide (¬ lz N np i < 0) && decide (sm (ahI (lz N np) i) np = nI (shN N np))) np with ⟨h, -⟩ | ⟨i, hi, h1, -, -⟩
  · exact h
  · obtain ⟨ui, e⟩ := (pl_t AP hnp hi _).mp h1
    have l1 := cB_le (aB N i) np
    have l2 := shN_le N np
    have := (nI_eq (by omega) (by omega)).mp e
    have := rank_lt hi ui
    omega
/-! the nearest pot -/
theorem nr_c (N : Nat → Int32) (x : Int32) : ∀ n, nrM N x n = -4 ∨ ∃ b, b < n ∧ soldK (N (66 + 8 * b)) = 0 ∧ nrM N x n = nI b
  | 0 => Or.inl rfl
  | n + 1 => by
    rw [nrM_s]
    split
    · rename_i h; exact Or.inr ⟨n, by omega, h.1, rfl⟩
    · rcases nr_c N x n with h | ⟨b, h1, h2, h3⟩
      · exact Or.inl h
      · exact Or.inr ⟨b, by omega, h2, h3⟩
theorem nr_f (N : Nat → Int32) (x : Int32) : ∀ n, n ≤ 16 → ∀ p, p < n → soldK (N (66 + 8 * p)) = 0 → ∃ b, b < n ∧ soldK (N (66 + 8 * b)) = 0 ∧ nrM N x n = nI b ∧ (ab (snM N b - x) < ab (snM N p - x) ∨ (ab (snM N b - x) = ab (snM N p - x) ∧ b ≤ p))
  | 0, _, p, hp, _ => absurd hp (Nat.not_lt_zero p)
  | n + 1, hn, p, hp, up => by
    rw [nrM_s]
    by_cases e : p = n
    · subst e
      by_cases c : soldK (N (66 + 8 * p)) = 0 ∧ (nrM N x p = -4 ∨ ab (snM N p - x) < ab (snM N (kOf (nrM N x p)) - x))
      · rw [if_pos c]; exact ⟨p, by omega, up, rfl, Or.inr ⟨rfl, Nat.le_refl _⟩⟩
      · rw [if_neg c]
        rcases nr_c N x p with h | ⟨b, h1, h2, h3⟩
        · exact absurd ⟨up, Or.inl h⟩ c
        · refine ⟨b, by omega, h2, h3, ?_⟩
          have c2 : ¬ ab (snM N p - x) < ab (snM N b - x) := fun z => c ⟨up, Or.inr (by rw [h3, kOf_nI (by omega)]; exact z)⟩
          by_cases d : ab (snM N b - x) < ab (snM N p - x)
          · exact Or.inl d
          · exact Or.inr ⟨Int32.le_antisymm (Int32.not_lt.mp c2) (Int32.not_lt.mp d), by omega⟩
    · obtain ⟨b, h1, h2, h3, h4⟩ := nr_f N x n (by omega) p (by omega) up
      by_cases c : soldK (N (66 + 8 * n)) = 0 ∧ (nrM N x n = -4 ∨ ab (snM N n - x) < ab (snM N (kOf (nrM N x n)) - x))
      · rw [if_pos c]
        refine ⟨n, by omega, c.1, rfl, Or.inl ?_⟩
        have c2 : ab (snM N n - x) < ab (snM N b - x) := by
          rcases c.2 with z | z
          · rw [h3] at z
            have : (soldK (nI b) = 1 ∧ ¬ nI b = -4) := soldK_nI (by omega)
            exact absurd z this.2
          · rw [h3, kOf_nI (by omega)] at z; exact z
        rcases h4 with d | ⟨d, -⟩
        · exact Int32.lt_trans c2 d
        · rw [← d]; exact c2
      · rw [if_neg c]; exact ⟨b, by omega, h2, h3, h4⟩
theorem nr_v {N : Nat → Int32} {np : Nat} (AP : ∀ i, i < np → PotI N i) (hnp : np ≤ 16) (x : Int32) : clS (lz N np) x np = nrM N x np := (near_e AP hnp x np (Nat.le_refl np)).1
theorem nr_no {N : Nat → Int32} {np : Nat} (hnp : np ≤ 16) (AP : ∀ i, i < np → PotI N i) (x : Int32) : nrM N x np = -4 ↔ shN N np = 0 := by
  constructor
  · intro h
    refine Classical.byContradiction fun z => ?_
    obtain ⟨a, ha, ua, -⟩ := rank_ex AP (k := 0) (Nat.pos_of_ne_zero z)
    obtain ⟨b, hb, -, e, -⟩ := nr_f N x np hnp a ha ua
    rw [e] at h
    exact absurd h (soldK_nI (n := b) (by omega)).2
  · intro h
    rcases nr_c N x np with z | ⟨b, hb, ub, -⟩
    · exact z
    · have := rank_lt hb ub; omega
/-! the peal -/
theorem snM_n1 {N : Nat → Int32} {i : Nat} (P : PotI N i) : ¬ snM N i = -1 ∧ -1 < snM N i := by
  obtain ⟨s, e, hs⟩ := snM_e P
  rw [e]
  exact ⟨nI_n1 (by omega), Int32.lt_of_lt_of_le (show (-1 : Int32) < 0 by decide) (le0 (by omega))⟩
theorem nx_f {N : Nat → Int32} {np : Nat} (AP : ∀ i, i < np → PotI N i) (x : Int32) : ∀ n, n ≤ np → (nxM N x n = -1 ∧ ∀ b, b < n → soldK (N (66 + 8 * b)) = 0 → ¬ x < snM N b) ∨ ∃ b, b < n ∧ soldK (N (66 + 8 * b)) = 0 ∧ x < snM N b ∧ nxM N x n = snM N b ∧ ∀ c, c < n → soldK (N (66 + 8 * c)) = 0 → x < snM N c → ¬ snM N c < snM N b
  | 0, _ => Or.inl ⟨rfl, fun b hb => absurd hb (Nat.not_lt_zero b)⟩
  | n + 1, hn => by
    rw [nxM_s]
    rcases nx_f AP x n (by omega) with ⟨h1, h2⟩ | ⟨b, h1, h2, h3, h4, h5⟩
    · by_cases c : (soldK (N (66 + 8 * n)) = 0 ∧ x < snM N n) ∧ (nxM N x n = -1 ∨ snM N n < nxM N x n)
      · rw [if_pos c]
        refine Or.inr ⟨n, by omega, c.1.1, c.1.2, rfl, fun d hd ud hx => ?_⟩
        by_cases e : d = n
        · rw [e]; exact Int32.lt_irrefl
        · exact absurd hx (h2 d (by omega) ud)
      · rw [if_neg c]
        refine Or.inl ⟨h1, fun d hd ud hx => ?_⟩
        by_cases e : d = n
        · subst e; exact c ⟨⟨ud, hx⟩, Or.inl h1⟩
        · exact h2 d (by omega) ud hx
    · have nb := (snM_n1 (AP b (by omega))).1
      by_cases c : (soldK (N (66 + 8 * n)) = 0 ∧ x < snM N n) ∧ (nxM N x n = -1 ∨ snM N n < nxM N x n)
      · rw [if_pos c]
        have c2 : snM N n < snM N b := by
          rcases c.2 with z | z
          · exact absurd (h4.symm.trans z) nb
          · rw [h4] at z; exact z
        refine Or.inr ⟨n, by omega, c.1.1, c.1.2, rfl, fun d hd ud hx => ?_⟩
        by_cases e : d = n
        · rw [e]; exact Int32.lt_irrefl
        · exact fun z => h5 d (by omega) ud hx (Int32.lt_trans z c2)
      · rw [if_neg c]
        refine Or.inr ⟨b, by omega, h2, h3, h4, fun d hd ud hx => ?_⟩
        by_cases e : d = n
        · subst e; exact fun z => c ⟨⟨ud, hx⟩, Or.inr (by rw [h4]; exact z)⟩
        · exact h5 d (by omega) ud hx
theorem nx_v {N : Nat → Int32} {np : Nat} (AP : ∀ i, i < np → PotI N i) {x : Int32} {a : Nat} (ha : a < np) (ua : soldK (N (66 + 8 * a)) = 0) (hx : x < snM N a) (hm : ∀ c, c < np → soldK (N (66 + 8 * c)) = 0 → x < snM N c → ¬ snM N c < snM N a) : nxM N x np = snM N a := by
  rcases nx_f AP x np (Nat.le_refl np) with ⟨-, h⟩ | ⟨b, h1, h2, h3, h4, h5⟩
  · exact absurd hx (h a ha ua)
  · rw [h4]
    exact Int32.le_antisymm (Int32.not_lt.mp (h5 a ha ua hx)) (Int32.not_lt.mp (hm b h1 h2 h3))
theorem nx_n {N : Nat → Int32} {np : Nat} (AP : ∀ i, i < np → PotI N i) {x : Int32} (hm : ∀ c, c < np → soldK (N (66 + 8 * c)) = 0 → ¬ x < snM N c) : nxM N x np = -1 := by
  rcases nx_f AP x np (Nat.le_refl np) with ⟨h, -⟩ | ⟨b, h1, h2, h3, -⟩
  · exact h
  · exact absurd h3 (hm b h1 h2)
/-- so far the chain goes, and it goes on -/
def PGo (N : Nat → Int32) (np : Nat) (x : Int32) (c k : Nat) : Prop := 1 ≤ c ∧ (∃ a, a < np ∧ soldK (N (66 + 8 * a)) = 0 ∧ cB (aB N a) np = k ∧ cM N np (c - 1) = snM N a) ∧ ∀ i, i < c → ¬ cM N np i = -1 ∧ cM N np i - cM N np (i - 1) ≤ x
/-- so far the chain goes, and no further -/
def PEn (N : Nat → Int32) (np : Nat) (x : Int32) (c : Nat) : Prop := (∀ i, i < c → ¬ cM N np i = -1 ∧ cM N np i - cM N np (i - 1) ≤ x) ∧ (cM N np c = -1 ∨ (¬ cM N np c = -1 ∧ ¬ cM N np c - cM N np (c - 1) ≤ x))
theorem PEn.v {N : Nat → Int32} {np : Nat} (AP : ∀ i, i < np → PotI N i) (hnp : np ≤ 16) {x : Int32} (hx : 0 ≤ x) {c : Nat} (E : PEn N np x c) : chS (lz N np) np x = nI c := by
  obtain ⟨m, hm, e, h1, h2⟩ := peal_e (f0 := fun _ => 0) AP hnp hx
  have key : ∀ a b : Nat, (∀ i, i < a → ¬ cM N np i = -1 ∧ cM N np i - cM N np (i - 1) ≤ x) → (cM N np b = -1 ∨ (¬ cM N np b = -1 ∧ ¬ cM N np b - cM N np (b - 1) ≤ x)) → ¬ b < a := fun a b h1 h2 z => by
    rcases h2 with y | ⟨-, y⟩
    · exact (h1 b z).1 y
    · exact y (h1 b z).2
  have e1 := key c m E.1 h2
  have e2 := key m c h1 E.2
  rw [show c = m by omega]
  exact e
theorem pg_0 {N : Nat → Int32} {np : Nat} (AP : ∀ i, i < np → PotI N i) {x : Int32} (hx : 0 ≤ x) (hm : 1 ≤ shN N np) : PGo N np x 1 (shN N np - 1) := by
  obtain ⟨a, ha, ua, ea⟩ := rank_ex AP (k := shN N np - 1) (by omega)
  have e : cM N np 0 = snM N a := nx_v AP ha ua (snM_n1 (AP a ha)).2 (fun c hc uc _ z => by
    have := aB_lt (N := N) (np := np) (i := a) (j := c) ha (aB_t.mpr ⟨ua, Or.inl z⟩)
    have := rank_lt hc uc
    omega)
  refine ⟨Nat.le_refl 1, ⟨a, ha, ua, ea, e⟩, fun i hi => ?_⟩
  rw [show i = 0 by omega]
  refine ⟨by rw [e]; exact (snM_n1 (AP a ha)).1, ?_⟩
  show cM N np 0 - cM N np 0 ≤ x
  rw [Int32.sub_self]; exact hx
theorem pg_e {N : Nat → Int32} {np : Nat} (AP : ∀ i, i < np → PotI N i) {x : Int32} {c : Nat} (G : PGo N np x c 0) : PEn N np x c := by
  obtain ⟨hc, ⟨a, ha, ua, ea, e⟩, h⟩ := G
  refine ⟨h, Or.inl ?_⟩
  obtain ⟨d, rfl⟩ : ∃ d, c = d + 1 := ⟨c - 1, by omega⟩
  show nxM N (cM N np d) np = -1
  rw [show cM N np d = snM N a from e]
  refine nx_n AP (fun b hb ub z => ?_)
  have := aB_lt (N := N) (np := np) (i := b) (j := a) hb (aB_t.mpr ⟨ub, Or.inl z⟩)
  omega
theorem pg_s {N : Nat → Int32} {np : Nat} (AP : ∀ i, i < np → PotI N i) {x : Int32} {c k a a' : Nat} (G : PGo N np x c (k + 1)) (ha : a < np) (ua : soldK (N (66 + 8 * a)) = 0) (ea : cB (aB N a) np = k + 1) (ha' : a' < np) (ua' : soldK (N (66 + 8 * a')) = 0) (ea' : cB (aB N a') np = k) :
    (snM N a' = snM N a ∧ PGo N np x c k) ∨ (snM N a < snM N a' ∧ (snM N a' - snM N a ≤ x → PGo N np x (c + 1) k) ∧ (¬ snM N a' - snM N a ≤ x → PEn N np x c)) := by
  obtain ⟨hc, ⟨a2, ha2, ua2, ea2, e⟩, h⟩ := G
  obtain rfl : a2 = a := rk_un AP ha2 ha ua2 ua (by omega)
  rcases rk_o AP ha' ha ua' ua (by omega) with z | ⟨z, -⟩
  · refine Or.inr ⟨z, ?_⟩
    have e2 : cM N np c = snM N a' := by
      obtain ⟨d, rfl⟩ : ∃ d, c = d + 1 := ⟨c - 1, by omega⟩
      show nxM N (cM N np d) np = _
      rw [show cM N np d = snM N a2 from e]
      refine nx_v AP ha' ua' z (fun b hb ub h1 h2 => ?_)
      have l1 := aB_lt (N := N) (np := np) (i := b) (j := a2) hb (aB_t.mpr ⟨ub, Or.inl h1⟩)
      have l2 := aB_lt (N := N) (np := np) (i := a') (j := b) ha' (aB_t.mpr ⟨ua', Or.inl h2⟩)
      omega
    have n1 : ¬ cM N np c = -1 := by rw [e2]; exact (snM_n1 (AP a' ha')).1
    refine ⟨fun d => ⟨by omega, ⟨a', ha', ua', ea', e2⟩, fun i hi => ?_⟩, fun d => ⟨h, Or.inr ⟨n1, by rw [e2, e]; exact d⟩⟩⟩
    by_cases q : i = c
    · subst q; exact ⟨n1, by rw [e2, e]; exact d⟩
    · exact h i (by omega)
  · exact Or.inl ⟨z, hc, ⟨a', ha', ua', ea', by rw [z]; exact e⟩, h⟩
theorem pe_0 {N : Nat → Int32} {np : Nat} (AP : ∀ i, i < np → PotI N i) {x : Int32} (hm : shN N np = 0) : PEn N np x 0 := by
  refine ⟨fun i hi => absurd hi (Nat.not_lt_zero i), Or.inl ?_⟩
  refine nx_n AP (fun b hb ub _ => ?_)
  have := rank_lt hb ub
  omega
