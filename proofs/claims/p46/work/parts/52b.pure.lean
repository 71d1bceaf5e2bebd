/-! ===== pure: what the class answers of pots and sounds is what the model answers ===== -/
theorem snd_a : ∀ k, k < 3 → ∀ g, g < 10 → ∀ b, b < 201 → thickK k (nI g) (nI b) = nI (kOf (thickK k (nI g) (nI b))) ∧ kOf (thickK k (nI g) (nI b)) ≤ 9 := by decide +kernel
theorem snd_b : ∀ k, k < 3 → ∀ th, th < 10 → ∀ t, t < 10 → ¬ th = 0 → kBare k + kThk k * nI th - kHalf k * nI t / 2 = nI (kOf (kBare k + kThk k * nI th - kHalf k * nI t / 2)) ∧ kOf (kBare k + kThk k * nI th - kHalf k * nI t / 2) ≤ 90 := by decide +kernel
theorem thk_e {N : Nat → Int32} {i : Nat} (P : PotI N i) : ∃ th, thickK (kOf (N (60 + 8 * i))) (N (61 + 8 * i)) (N (62 + 8 * i)) = nI th ∧ th ≤ 9 := by
  obtain ⟨pk, ⟨g, hg, hg1, hg9⟩, ⟨b, hb, hb2⟩, -⟩ := P
  rw [hg, hb]
  obtain ⟨e1, e2⟩ := snd_a _ pk.2 g (by omega) b (by omega)
  exact ⟨_, e1, e2⟩
theorem snM_e {N : Nat → Int32} {i : Nat} (P : PotI N i) : ∃ s, snM N i = nI s ∧ s ≤ 92 := by
  obtain ⟨th, e1, e2⟩ := thk_e P
  obtain ⟨pk, -, -, ⟨t, ht, ht9⟩, -⟩ := P
  unfold snM ringK
  rw [e1, ht]
  by_cases z : nI th = 0
  · rw [if_pos z]; exact ⟨0, rfl, by omega⟩
  · rw [if_neg z]
    have z2 : ¬ th = 0 := fun q => z (by rw [q]; rfl)
    obtain ⟨e3, e4⟩ := snd_b _ pk.2 th (by omega) t (by omega) z2
    split
    · exact ⟨_, e3, by omega⟩
    · rw [e3]; exact ⟨_, show _ = nI (kOf (kBare (kOf (N (60 + 8 * i))) + kThk (kOf (N (60 + 8 * i))) * nI th - kHalf (kOf (N (60 + 8 * i))) * nI t / 2) + 2) from nI_add _ 2, by omega⟩
/-- r tells the first i below n with p; else it is d -/
def Fst (p : Nat → Bool) (n : Nat) (d r : Int32) : Prop := (r = d ∧ ∀ i, i < n → p i = false) ∨ ∃ i, i < n ∧ p i = true ∧ (∀ j, j < i → p j = false) ∧ r = nI i
theorem Fst.two {p : Nat → Bool} {n : Nat} {d d' r r' : Int32} (h : Fst p n d r) (h' : Fst p n d' r') : (r = d ∧ r' = d') ∨ ∃ i, i < n ∧ p i = true ∧ r = nI i ∧ r' = nI i := by
  rcases h with ⟨h1, h⟩ | ⟨i, hi, pi, li, h1⟩
  · rcases h' with ⟨h2, h'⟩ | ⟨j, hj, pj, lj, h2⟩
    · exact Or.inl ⟨h1, h2⟩
    · rw [h j hj] at pj; cases pj
  · rcases h' with ⟨h2, h'⟩ | ⟨j, hj, pj, lj, h2⟩
    · rw [h' i hi] at pi; cases pi
    · have e : i = j := by
        rcases Nat.lt_trichotomy i j with q | q | q
        · rw [lj i q] at pi; cases pi
        · exact q
        · rw [li j q] at pj; cases pj
      subst e
      exact Or.inr ⟨i, hi, pi, h1, h2⟩
theorem Fst.un {p : Nat → Bool} {n : Nat} {d r r' : Int32} (h : Fst p n d r) (h' : Fst p n d r') : r = r' := by
  rcases h.two h' with ⟨a, b⟩ | ⟨i, -, -, a, b⟩ <;> rw [a, b]
theorem Fst.cg {p q : Nat → Bool} {n : Nat} {d r : Int32} (h : Fst p n d r) (e : ∀ i, i < n → p i = q i) : Fst q n d r := by
  rcases h with ⟨h1, h⟩ | ⟨i, hi, pi, li, h1⟩
  · exact Or.inl ⟨h1, fun i hi => by rw [← e i hi]; exact h i hi⟩
  · exact Or.inr ⟨i, hi, by rw [← e i hi]; exact pi, fun j hj => by rw [← e j (by omega)]; exact li j hj, h1⟩
theorem lowD_f (d : Int32) (p : Nat → Bool) (n : Nat) : ∀ k, k ≤ n → (lowD d p n k = d ∧ ∀ i, n - k ≤ i → i < n → p i = false) ∨ ∃ i, n - k ≤ i ∧ i < n ∧ p i = true ∧ (∀ j, n - k ≤ j → j < i → p j = false) ∧ lowD d p n k = nI i
  | 0, _ => Or.inl ⟨rfl, fun i h1 h2 => absurd h1 (by omega)⟩
  | k + 1, hk => by
    have e : lowD d p n (k + 1) = if p (n - (k + 1)) = true then nI (n - (k + 1)) else lowD d p n k := rfl
    by_cases q : p (n - (k + 1)) = true
    · rw [e, if_pos q]; exact Or.inr ⟨n - (k + 1), Nat.le_refl _, by omega, q, fun j h1 h2 => absurd h1 (by omega), rfl⟩
    · rw [e, if_neg q]
      have q' : p (n - (k + 1)) = false := by simpa using q
      rcases lowD_f d p n k (by omega) with ⟨h1, h2⟩ | ⟨i, h1, h2, h3, h4, h5⟩
      · refine Or.inl ⟨h1, fun i a b => ?_⟩
        rcases Nat.lt_or_ge i (n - k) with z | z
        · rw [show i = n - (k + 1) by omega]; exact q'
        · exact h2 i z b
      · refine Or.inr ⟨i, by omega, h2, h3, fun j a b => ?_, h5⟩
        rcases Nat.lt_or_ge j (n - k) with z | z
        · rw [show j = n - (k + 1) by omega]; exact q'
        · exact h4 j z b
theorem lowD_F (d : Int32) (p : Nat → Bool) (n : Nat) : Fst p n d (lowD d p n n) := by
  rcases lowD_f d p n n (Nat.le_refl n) with ⟨h1, h2⟩ | ⟨i, h1, h2, h3, h4, h5⟩
  · exact Or.inl ⟨h1, fun i hi => h2 i (by omega) hi⟩
  · exact Or.inr ⟨i, h2, h3, fun j hj => h4 j (by omega) hj, h5⟩
theorem lowF_D (p : Nat → Bool) (n : Nat) : ∀ k, lowF p n k = lowD (-4) p n k
  | 0 => rfl
  | k + 1 => by
    show (if p (n - (k + 1)) = true then nI (n - (k + 1)) else lowF p n k) = (if p (n - (k + 1)) = true then nI (n - (k + 1)) else lowD (-4) p n k)
    rw [lowF_D p n k]
theorem lowN_F (N : Nat → Int32) (giv : Int32) (j np : Nat) : Fst (lwB N giv j) np (-4) (lowN N giv j np) := by
  unfold lowN
  rw [lowF_D]
  exact lowD_F _ _ _
theorem nI_n1 {n : Nat} (h : n < 2 ^ 31) : ¬ nI n = -1 := fun z => nI_pos h (by rw [z]; decide)
theorem fwG_F (p : Nat → Bool) : ∀ n, n ≤ 1000 → Fst p n (-4) (fwG p n)
  | 0, _ => Or.inl ⟨rfl, fun i hi => absurd hi (Nat.not_lt_zero i)⟩
  | n + 1, hn => by
    rw [fwG_s]
    rcases fwG_F p n (by omega) with ⟨h1, h2⟩ | ⟨i, h1, h2, h3, h4⟩
    · by_cases q : p n = true
      · rw [if_pos ⟨h1, q⟩]; exact Or.inr ⟨n, by omega, q, h2, rfl⟩
      · rw [if_neg (fun z => q z.2)]
        refine Or.inl ⟨h1, fun i hi => ?_⟩
        rcases Nat.lt_or_ge i n with z | z
        · exact h2 i z
        · rw [show i = n by omega]; simpa using q
    · rw [if_neg (fun z => (soldK_nI (n := i) (by omega)).2 (h4.symm.trans z.1))]
      exact Or.inr ⟨i, by omega, h2, h3, h4⟩
theorem lwB_t {N : Nat → Int32} {giv : Int32} {j i : Nat} : lwB N giv j i = true ↔ (giv >>> (nI i &&& 31)) &&& 1 = 0 ∧ ¬ goodN N i j = 0 := by
  unfold lwB
  simp
theorem fwW_F (N : Nat → Int32) (t : Int32) (j : Nat) : ∀ n, n ≤ 1000 → Fst (lwB N t j) n (-1) (fwW N t j n)
  | 0, _ => Or.inl ⟨rfl, fun i hi => absurd hi (Nat.not_lt_zero i)⟩
  | n + 1, hn => by
    rw [fwW_s]
    rcases fwW_F N t j n (by omega) with ⟨h1, h2⟩ | ⟨i, h1, h2, h3, h4⟩
    · by_cases q : lwB N t j n = true
      · rw [if_pos ⟨h1, lwB_t.mp q⟩]; exact Or.inr ⟨n, by omega, q, h2, rfl⟩
      · rw [if_neg (fun z => q (lwB_t.mpr z.2))]
        refine Or.inl ⟨h1, fun i hi => ?_⟩
        rcases Nat.lt_or_ge i n with z | z
        · exact h2 i z
        · rw [show i = n by omega]; simpa using q
    · rw [if_neg (fun z => nI_n1 (n := i) (by omega) (h4.symm.trans z.1))]
      exact Or.inr ⟨i, by omega, h2, h3, h4⟩
theorem z_sh : ∀ i, i < 16 → ((0 : Int32) >>> (nI i &&& 31)) &&& 1 = 0 := by decide +kernel
theorem goodFor_e {N : Nat → Int32} {np : Nat} (hnp : np ≤ 16) (j : Nat) : lowN N 0 j np = fwG (fun i => !decide (goodN N i j = 0)) np := by
  refine (lowN_F N 0 j np).un ((fwG_F _ np (by omega)).cg (fun i hi => ?_))
  unfold lwB
  rw [decide_eq_true (z_sh i (by omega)), Bool.true_and]
theorem worth_e {N : Nat → Int32} {np : Nat} (hnp : np ≤ 16) : ∀ n, (wF N np n).2 = wMt N np n ∧ (wF N np n).1 = wMs N np n
  | 0 => ⟨rfl, rfl⟩
  | n + 1 => by
    obtain ⟨e1, e2⟩ := worth_e hnp n
    rw [wF_s, wMt_s, wMs_s, ← e1, ← e2]
    generalize wF N np n = w
    by_cases q : N (191 + 5 * n) = -4
    · have hp : potF N np n w.2 = lowN N w.2 n np := by unfold potF; rw [if_neg (fun z => z (by rw [q]; rfl))]
      have hf : fvW N np w.2 n = fwW N w.2 n np := if_pos q
      rw [hp, hf]
      rcases (lowN_F N w.2 n np).two (fwW_F N w.2 n np (by omega)) with ⟨a, b⟩ | ⟨i, hi, -, a, b⟩
      · rw [a, b, if_pos (show (-4 : Int32) < 0 by decide), if_pos rfl, if_pos rfl, Int32.or_zero, Int32.add_zero]
        exact ⟨rfl, rfl⟩
      · rw [a, b, if_neg (nI_pos (by omega)), if_neg (nI_n1 (by omega)), if_neg (nI_n1 (by omega))]
        exact ⟨rfl, rfl⟩
    · have hp : potF N np n w.2 = -4 := by
        unfold potF
        rw [if_pos (fun z => q (soldK_0 z))]
      have hf : fvW N np w.2 n = -1 := if_neg q
      rw [hp, hf, if_pos (show (-4 : Int32) < 0 by decide), if_pos rfl, if_pos rfl, Int32.or_zero, Int32.add_zero]
      exact ⟨rfl, rfl⟩
/-! the sounds that the class listens to, and those of the model -/
theorem ls_0 {N f0 : Nat → Int32} {np j : Nat} (hj : j < np) : lsF N f0 np j = sndN N j := if_pos hj
theorem sn_y {N : Nat → Int32} {j : Nat} (h : soldK (N (66 + 8 * j)) = 0) : sndN N j = snM N j := if_pos h
theorem sn_n {N : Nat → Int32} {j : Nat} (h : ¬ soldK (N (66 + 8 * j)) = 0) : sndN N j = -1 := if_neg h
theorem sn_ge {N : Nat → Int32} {j : Nat} (P : PotI N j) : 0 ≤ sndN N j ↔ soldK (N (66 + 8 * j)) = 0 := by
  constructor
  · intro h
    refine Classical.byContradiction fun z => ?_
    rw [sn_n z] at h
    exact absurd h (by decide)
  · intro h
    obtain ⟨s, e, hs⟩ := snM_e P
    rw [sn_y h, e]
    exact le0 (by omega)
theorem sm_add (f g : Nat → Int32) : ∀ n, sm (fun i => f i + g i) n = sm f n + sm g n
  | 0 => by show (0 : Int32) = 0 + 0; decide
  | n + 1 => by rw [sm_s, sm_s, sm_s, sm_add f g n]; ac_rfl
theorem tri (F : Nat → Nat → Int32) (m : Nat) (hs : ∀ a b, a < m → b < m → F a b = F b a) : ∀ n, n ≤ m → sm (fun a => sm (fun i => F a (a + 1 + i)) (n - (a + 1))) n = sm (fun i => sm (F i) i) n
  | 0, _ => rfl
  | n + 1, hn => by
    rw [sm_s, sm_s, ← tri F m hs n (by omega), show n + 1 - (n + 1) = 0 by omega]
    have e : sm (fun a => sm (fun i => F a (a + 1 + i)) (n + 1 - (a + 1))) n = sm (fun a => sm (fun i => F a (a + 1 + i)) (n - (a + 1)) + F a n) n := sm_cg (fun a ha => by
      rw [show n + 1 - (a + 1) = (n - (a + 1)) + 1 by omega, sm_s, show a + 1 + (n - (a + 1)) = n by omega])
    have e2 : sm (fun a => F a n) n = sm (F n) n := sm_cg (fun a ha => hs a n (by omega) (by omega))
    rw [e, sm_add (fun a => sm (fun i => F a (a + 1 + i)) (n - (a + 1))) (fun a => F a n), e2]
    exact Int32.add_zero _
theorem alK_s : ∀ a, a < 93 → ∀ b, b < 93 → alK (nI a) (nI b) = alK (nI b) (nI a) := by decide +kernel
def pairF (N : Nat → Int32) (a b : Nat) : Int32 := if soldK (N (66 + 8 * a)) = 0 ∧ soldK (N (66 + 8 * b)) = 0 ∧ ¬ alK (snM N a) (snM N b) = 0 then 1 else 0
theorem alike_e {N f0 : Nat → Int32} {np : Nat} (AP : ∀ i, i < np → PotI N i) : sm (fun i => sm (prI (lsF N f0 np) i) i) np = sm (fun a => sm (alM N a) (np - (a + 1))) np := by
  have e : sm (fun i => sm (prI (lsF N f0 np) i) i) np = sm (fun i => sm (pairF N i) i) np := sm_cg (fun i hi => sm_cg (fun j hj => by
    unfold prI pairF
    rw [ls_0 hi, ls_0 (show j < np by omega)]
    by_cases q : soldK (N (66 + 8 * i)) = 0
    · by_cases q2 : soldK (N (66 + 8 * j)) = 0
      · have h1 := (sn_ge (AP i hi)).mpr q
        have h2 := (sn_ge (AP j (by omega))).mpr q2
        rw [sn_y q, sn_y q2] at *
        simp [q, q2, h1, h2]
      · rw [if_neg (fun z => q2 ((sn_ge (AP j (by omega))).mp z.2.1)), if_neg (fun z => q2 z.2.1)]
    · rw [if_neg (fun z => q ((sn_ge (AP i hi)).mp z.1)), if_neg (fun z => q z.1)]))
  rw [e, ← tri (pairF N) np (fun a b ha hb => by
    obtain ⟨s, e1, hs⟩ := snM_e (AP a ha)
    obtain ⟨t, e2, ht⟩ := snM_e (AP b hb)
    unfold pairF
    rw [e1, e2, alK_s s (by omega) t (by omega)]
    by_cases q : soldK (N (66 + 8 * a)) = 0 <;> by_cases q2 : soldK (N (66 + 8 * b)) = 0 <;> simp [q, q2]) np (Nat.le_refl np)]
  rfl
