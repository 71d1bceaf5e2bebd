theorem rgx {x : Int32} {lo hi : Nat} (hlo : lo < 2 ^ 31) (h1 : ¬ x < nI lo) (h2 : ¬ nI hi < x) : ∃ q, lo ≤ q ∧ q ≤ hi ∧ x = nI q := by
  have h0 : ¬ x < 0 := fun z => h1 (Int32.lt_of_lt_of_le z (show nI 0 ≤ nI lo from nI_le (by omega) hlo))
  obtain ⟨j, hj, rfl⟩ := nI_of h0
  exact ⟨j, Nat.not_lt.mp fun q => h1 (nI_lt q hlo), Nat.not_lt.mp fun q => h2 (nI_lt q hj), rfl⟩
theorem sm_cg {f g : Nat → Int32} {n : Nat} (h : ∀ i, i < n → f i = g i) : sm f n = sm g n := by
  induction n with
  | zero => rfl
  | succ n ih => rw [sm_s, sm_s, ih (fun i hi => h i (by omega)), h n (by omega)]
theorem sm_ch {f g : Nat → Int32} {n i0 : Nat} {d : Int32} (hi : i0 < n) (h0 : g i0 = f i0 + d) (h : ∀ i, i < n → i ≠ i0 → g i = f i) : sm g n = sm f n + d := by
  induction n with
  | zero => exact absurd hi (Nat.not_lt_zero _)
  | succ n ih =>
    rw [sm_s, sm_s]
    by_cases e : i0 = n
    · subst e
      rw [sm_cg (f := g) (g := f) (fun i hi => h i (by omega) (by omega)), h0, Int32.add_assoc]
    · rw [ih (by omega) (fun i hi n => h i (by omega) n), h n (by omega) (fun z => e z.symm), Int32.add_assoc, Int32.add_comm d, ← Int32.add_assoc]
/-- how many orders are filled -/
def fcN (N : Nat → Int32) : Nat → Nat
  | 0 => 0
  | j + 1 => fcN N j + (if N (191 + 5 * j) = -4 then 0 else 1)
theorem fcN_s (N : Nat → Int32) (j : Nat) : fcN N (j + 1) = fcN N j + (if N (191 + 5 * j) = -4 then 0 else 1) := rfl
theorem fcN_le (N : Nat → Int32) : ∀ n, fcN N n ≤ n
  | 0 => Nat.le_refl _
  | n + 1 => by have := fcN_le N n; rw [fcN_s]; split <;> omega
theorem fcN_cg {N M : Nat → Int32} {n : Nat} (h : ∀ j, j < n → M (191 + 5 * j) = N (191 + 5 * j)) : fcN M n = fcN N n := by
  induction n with
  | zero => rfl
  | succ n ih => rw [fcN_s, fcN_s, ih (fun i hi => h i (by omega)), h n (by omega)]
theorem fcN_ch {N M : Nat → Int32} {n j0 : Nat} (hj : j0 < n) (h1 : N (191 + 5 * j0) = -4) (h2 : ¬ M (191 + 5 * j0) = -4) (h : ∀ j, j < n → j ≠ j0 → M (191 + 5 * j) = N (191 + 5 * j)) : fcN M n = fcN N n + 1 := by
  induction n with
  | zero => exact absurd hj (Nat.not_lt_zero _)
  | succ n ih =>
    rw [fcN_s, fcN_s]
    by_cases e : j0 = n
    · subst e
      rw [fcN_cg (N := N) (M := M) (fun i hi => h i (by omega) (by omega)), if_pos h1, if_neg h2]
    · rw [ih (by omega) (fun i hi n => h i (by omega) n), h n (by omega) (fun z => e z.symm)]
      omega
theorem PotI.cg {N M : Nat → Int32} {i : Nat} (h : ∀ q, 60 + 8 * i ≤ q → q < 68 + 8 * i → M q = N q) (P : PotI N i) : PotI M i := by
  unfold PotI at *
  rw [h (60 + 8 * i) (by omega) (by omega), h (61 + 8 * i) (by omega) (by omega), h (62 + 8 * i) (by omega) (by omega), h (63 + 8 * i) (by omega) (by omega), h (65 + 8 * i) (by omega) (by omega)]
  exact P
theorem OrdI.cg {N M : Nat → Int32} {j : Nat} (h : ∀ q, 188 + 5 * j ≤ q → q < 191 + 5 * j → M q = N q) (O : OrdI N j) : OrdI M j := by
  unfold OrdI at *
  rw [h (188 + 5 * j) (by omega) (by omega), h (189 + 5 * j) (by omega) (by omega), h (190 + 5 * j) (by omega) (by omega)]
  exact O
/-- what holds of a row all along: beside its ranges, the coins and bars that there can be, and the sums that are told in two ways -/
def RI (N : Nat → Int32) (ns np no : Nat) : Prop := RowA N ns np no ∧ (∃ c b, N 0 = nI c ∧ N 1 = nI b ∧ c + b ≤ 50 + 99 * fcN N no) ∧ sm (fun i => soldK (N (66 + 8 * i))) np = sm (fun j => soldK (N (191 + 5 * j))) no ∧
  N 5 = sm (fun i => N (62 + 8 * i)) np ∧ N 6 = sm (fun i => N (64 + 8 * i)) np ∧ N 9 = sm (fun j => N (192 + 5 * j)) no ∧ N 10 + 20 = sm (fun i => N (12 + 4 * i)) ns + N 11 ∧
  (∀ i, i < ns → ∃ g, N (12 + 4 * i) = nI g ∧ 1 ≤ g ∧ g ≤ 9) ∧ ∀ j, j < no → N (191 + 5 * j) = -4 → N (192 + 5 * j) = 0
theorem RI.cg {N M : Nat → Int32} {ns np no : Nat} (h : ∀ q, q < 228 → M q = N q) (R : RI N ns np no) : RI M ns np no := by
  obtain ⟨⟨a2, a3, a4, b2, b3, b4, AP, AO⟩, ⟨c, b, e0, e1, hcb⟩, s1, s2, s3, s4, s5, sg, su⟩ := R
  refine ⟨⟨(h 2 (by omega)).trans a2, (h 3 (by omega)).trans a3, (h 4 (by omega)).trans a4, b2, b3, b4, fun i hi => (AP i hi).cg (fun q h1 h2 => h q (by omega)), fun j hj => (AO j hj).cg (fun q h1 h2 => h q (by omega))⟩, ⟨c, b, (h 0 (by omega)).trans e0, (h 1 (by omega)).trans e1, ?_⟩, ?_, ?_, ?_, ?_, ?_, ?_, ?_⟩
  · rw [fcN_cg (N := N) (M := M) (fun j hj => h _ (by omega))]; exact hcb
  · rw [sm_cg (f := fun i => soldK (M (66 + 8 * i))) (g := fun i => soldK (N (66 + 8 * i))) (fun i hi => congrArg soldK (h _ (by omega))), s1]
    exact sm_cg (fun j hj => congrArg soldK (h _ (by omega)).symm)
  · rw [h 5 (by omega), s2]; exact sm_cg (fun i hi => (h _ (by omega)).symm)
  · rw [h 6 (by omega), s3]; exact sm_cg (fun i hi => (h _ (by omega)).symm)
  · rw [h 9 (by omega), s4]; exact sm_cg (fun i hi => (h _ (by omega)).symm)
  · rw [h 10 (by omega), h 11 (by omega), s5, sm_cg (f := fun i => M (12 + 4 * i)) (g := fun i => N (12 + 4 * i)) (fun i hi => h (12 + 4 * i) (by omega))]
  · intro i hi; rw [h _ (by omega)]; exact sg i hi
  · intro j hj; rw [h _ (by omega), h _ (by omega)]; exact su j hj
/-- what every deed does: a code, a refusal, or a row of which the same holds -/
def Kp (o : Out) : Prop := match o with
  | .inl c => c = -1 ∨ c = -2
  | .inr (.inl (w, _, _, _)) => ¬ w = 0
  | .inr (.inr (v, N')) => 0 ≤ v ∧ ∃ ns np no, RI N' ns np no
theorem Kp.ok {o : Out} (h : Kp o) : OutOk o := by
  rcases o with c | (⟨w, d, b, i⟩ | ⟨v, N'⟩)
  · rcases (show c = -1 ∨ c = -2 from h) with rfl | rfl
    · show (-1 : Int32) < 0; decide
    · show (-2 : Int32) < 0; decide
  · exact h
  · exact (show 0 ≤ v ∧ _ from h).1
theorem Kp.n3 {o : Out} (h : Kp o) : ∀ z, o = .inl z → ¬ z = -3 := by
  intro z e
  subst e
  rcases (show z = -1 ∨ z = -2 from h) with rfl | rfl <;> decide
theorem le0 {n : Nat} (h : n < 2 ^ 31) : (0 : Int32) ≤ nI n := Int32.not_lt.mp (nI_pos h)
theorem crk94 : ∀ k, k < 3 → ∀ g, g < 10 → ∀ b, b < 201 → crackedK k (nI g) (nI b) = 0 → b < 94 := by decide +kernel
def barK (k x : Nat) : Nat := (([12, 8, 20] : List Nat).getD k 0 * x + 3) / 4
theorem bar_e : ∀ k, k < 3 → ∀ x, x < 10 → (kArea k * nI x + 3) / 4 = nI (barK k x) ∧ barK k x < 50 := by decide +kernel
theorem pay_e : ∀ p, p < 100 → nI p / 2 = nI (p / 2) := by decide +kernel
theorem kml : ∀ k, k < 3 → 2 ≤ kMealN k ∧ kMealN k ≤ 6 := by decide +kernel
theorem soldK_0 {x : Int32} (h : soldK x = 0) : x = -4 := by
  unfold soldK at h
  split at h
  · assumption
  · exact absurd h (by decide)
theorem soldK_nI {n : Nat} (h : n < 2 ^ 31) : soldK (nI n) = 1 ∧ ¬ nI n = -4 := by
  have e : ¬ nI n = -4 := fun z => nI_pos h (by rw [z]; decide)
  exact ⟨if_neg e, e⟩
theorem thick_p (k : Nat) (g x : Int32) : 0 ≤ thickK k g x := by
  unfold thickK
  generalize g - mx (x - kSm k) 0 / 6 = z
  unfold mx
  split
  · exact Int32.le_refl _
  · rename_i h; exact Int32.not_lt.mp h
theorem ac1 (a b s n : Int32) (h : a + 20 = s + n) : a + b + 20 = s + b + n := by rw [show a + b + 20 = (a + 20) + b by ac_rfl, h]; ac_rfl
theorem ac2 (a b s n : Int32) (h : a + 20 = s + n) : a + b + 20 = s + (n + b) := by rw [show a + b + 20 = (a + 20) + b by ac_rfl, h]; ac_rfl
theorem kp_hin {N : Nat → Int32} {p : Int32} {els : Out} (h : crackedK (kOf (N (60 + 8 * kOf p))) (N (61 + 8 * kOf p)) (N (62 + 8 * kOf p)) = 0 → Kp els) : Kp (hinK N p els) := by
  unfold hinK
  by_cases c1 : soldK (N (66 + 8 * kOf p)) = 0
  · rw [if_neg (fun z => z c1)]
    by_cases c2 : crackedK (kOf (N (60 + 8 * kOf p))) (N (61 + 8 * kOf p)) (N (62 + 8 * kOf p)) = 0
    · rw [if_neg (fun z => z c2)]; exact h c2
    · rw [if_pos c2]; exact (show ¬ (5 : Int32) = 0 by decide)
  · rw [if_pos c1]; exact (show ¬ (4 : Int32) = 0 by decide)
theorem kp_sheet {N : Nat → Int32} {ns np no : Nat} (R : RI N ns np no) (g a : Int32) : Kp (pSheet N g a) := by
  unfold pSheet
  by_cases c1 : g < 1 ∨ 9 < g ∨ a < 10 ∨ 60 < a
  · rw [if_pos c1]; exact (show Kp (.inl (-2)) from Or.inr rfl)
  rw [if_neg c1]
  by_cases c2 : N 2 = 12
  · rw [if_pos c2]; exact (show ¬ (1 : Int32) = 0 by decide)
  rw [if_neg c2]
  by_cases c3 : N 0 < g
  · rw [if_pos c3]; exact (show ¬ (2 : Int32) = 0 by decide)
  rw [if_neg c3]
  obtain ⟨⟨a2, a3, a4, b2, b3, b4, AP, AO⟩, ⟨c, b, e0, e1, hcb⟩, s1, s2, s3, s4, s5, sg, su⟩ := R
  have hfc := fcN_le N no
  obtain ⟨gg, hg1, hg9, rfl⟩ : ∃ q, 1 ≤ q ∧ q ≤ 9 ∧ g = nI q := rgx (by omega) (fun z => c1 (Or.inl z)) (fun z => c1 (Or.inr (Or.inl z)))
  rw [a2] at c2
  have hns : ns < 12 := Nat.lt_of_le_of_ne b2 (fun z => c2 (by rw [z]; rfl))
  rw [e0] at c3
  have hc : gg ≤ c := Nat.not_lt.mp fun z => c3 (nI_lt z (by omega))
  rw [a2, kOf_nI (by omega)]
  obtain ⟨M, hM⟩ : ∃ M, M = upd (upd (upd (upd (upd (upd (upd (N) (0) (N 0 - nI gg)) (10) (N 10 + nI gg)) (12 + 4 * ns) (nI gg)) (12 + 4 * ns + 1) (a)) (12 + 4 * ns + 2) (0)) (12 + 4 * ns + 3) (a)) (2) (nI ns + 1) := ⟨_, rfl⟩
  have e : ∀ q, M q = if q = 2 then nI ns + 1 else if q = 12 + 4 * ns + 3 then a else if q = 12 + 4 * ns + 2 then 0 else if q = 12 + 4 * ns + 1 then a else if q = 12 + 4 * ns then nI gg else if q = 10 then N 10 + nI gg else if q = 0 then N 0 - nI gg else N q := fun q => by rw [hM]; rfl
  rw [← hM]
  refine ⟨le0 (by omega), ns + 1, np, no, ⟨?_, ?_, ?_, by omega, b3, b4, ?_, ?_⟩, ⟨(c - gg), b, ?_, ?_, ?_⟩, ?_, ?_, ?_, ?_, ?_, ?_, ?_⟩
  · rw [e, if_pos rfl]; exact nI_1 ns
  · rw [e]; (repeat rw [if_neg (by omega)]); exact a3
  · rw [e]; (repeat rw [if_neg (by omega)]); exact a4
  · exact fun i hi => (AP i hi).cg (fun q h1 h2 => by rw [e]; (repeat rw [if_neg (by omega)]))
  · exact fun j hj => (AO j hj).cg (fun q h1 h2 => by rw [e]; (repeat rw [if_neg (by omega)]))
  · rw [e]; (repeat rw [if_neg (by omega)]); rw [if_pos rfl, e0]; exact nI_sub' hc
  · rw [e]; (repeat rw [if_neg (by omega)]); exact e1
  · rw [fcN_cg (N := N) (M := M) (fun j hj => by rw [e]; (repeat rw [if_neg (by omega)]))]; omega
  · rw [sm_cg (f := fun i => soldK (M (66 + 8 * i))) (g := fun i => soldK (N (66 + 8 * i))) (fun i hi => congrArg soldK (by rw [e]; (repeat rw [if_neg (by omega)]))), s1]
    exact sm_cg (fun j hj => congrArg soldK (by rw [e]; (repeat rw [if_neg (by omega)])))
  · rw [e]; (repeat rw [if_neg (by omega)]); rw [s2]
    exact sm_cg (fun i hi => by rw [e]; (repeat rw [if_neg (by omega)]))
  · rw [e]; (repeat rw [if_neg (by omega)]); rw [s3]
    exact sm_cg (fun i hi => by rw [e]; (repeat rw [if_neg (by omega)]))
  · rw [e]; (repeat rw [if_neg (by omega)]); rw [s4]
    exact sm_cg (fun i hi => by rw [e]; (repeat rw [if_neg (by omega)]))
  · rw [e 10, e 11, sm_s, e (12 + 4 * ns)]; (repeat rw [if_neg (by omega)]); rw [if_pos rfl]; (repeat rw [if_neg (by omega)]); rw [if_pos rfl]; (repeat rw [if_neg (by omega)]); rw [sm_cg (f := fun i => M (12 + 4 * i)) (g := fun i => N (12 + 4 * i)) (fun i hi => by rw [e]; (repeat rw [if_neg (by omega)]))]
    exact ac1 _ _ _ _ s5
  · intro i hi
    by_cases q : i = ns
    · subst q; rw [e]; (repeat rw [if_neg (by omega)]); rw [if_pos rfl]; exact ⟨gg, rfl, hg1, hg9⟩
    · rw [e]; (repeat rw [if_neg (by omega)]); exact sg i (by omega)
  · intro j hj; rw [e, e]; (repeat rw [if_neg (by omega)]); exact su j hj
theorem kp_bars {N : Nat → Int32} {ns np no : Nat} (R : RI N ns np no) (x : Int32) : Kp (pBars N x) := by
  unfold pBars
  by_cases c1 : x < 1 ∨ 50 < x
  · rw [if_pos c1]; exact (show Kp (.inl (-2)) from Or.inr rfl)
  rw [if_neg c1]
  by_cases c2 : N 0 < x
  · rw [if_pos c2]; exact (show ¬ (2 : Int32) = 0 by decide)
  rw [if_neg c2]
  obtain ⟨⟨a2, a3, a4, b2, b3, b4, AP, AO⟩, ⟨c, b, e0, e1, hcb⟩, s1, s2, s3, s4, s5, sg, su⟩ := R
  have hfc := fcN_le N no
  obtain ⟨xx, hx1, hx9, rfl⟩ : ∃ q, 1 ≤ q ∧ q ≤ 50 ∧ x = nI q := rgx (by omega) (fun z => c1 (Or.inl z)) (fun z => c1 (Or.inr z))
  rw [e0] at c2
  have hc : xx ≤ c := Nat.not_lt.mp fun z => c2 (nI_lt z (by omega))
  obtain ⟨M, hM⟩ : ∃ M, M = upd (upd (upd (upd (N) (0) (N 0 - nI xx)) (10) (N 10 + nI xx)) (1) (N 1 + nI xx)) (11) (N 11 + nI xx) := ⟨_, rfl⟩
  have e : ∀ q, M q = if q = 11 then N 11 + nI xx else if q = 1 then N 1 + nI xx else if q = 10 then N 10 + nI xx else if q = 0 then N 0 - nI xx else N q := fun q => by rw [hM]; rfl
  rw [← hM]
  refine ⟨by rw [e1, nI_add]; exact le0 (by omega), ns, np, no, ⟨?_, ?_, ?_, b2, b3, b4, ?_, ?_⟩, ⟨(c - xx), (b + xx), ?_, ?_, ?_⟩, ?_, ?_, ?_, ?_, ?_, ?_, ?_⟩
  · rw [e]; (repeat rw [if_neg (by omega)]); exact a2
  · rw [e]; (repeat rw [if_neg (by omega)]); exact a3
  · rw [e]; (repeat rw [if_neg (by omega)]); exact a4
  · exact fun i hi => (AP i hi).cg (fun q h1 h2 => by rw [e]; (repeat rw [if_neg (by omega)]))
  · exact fun j hj => (AO j hj).cg (fun q h1 h2 => by rw [e]; (repeat rw [if_neg (by omega)]))
  · rw [e]; (repeat rw [if_neg (by omega)]); rw [if_pos rfl, e0]; exact nI_sub' hc
  · rw [e]; (repeat rw [if_neg (by omega)]); rw [if_pos rfl, e1]; exact nI_add _ _
  · rw [fcN_cg (N := N) (M := M) (fun j hj => by rw [e]; (repeat rw [if_neg (by omega)]))]; omega
  · rw [sm_cg (f := fun i => soldK (M (66 + 8 * i))) (g := fun i => soldK (N (66 + 8 * i))) (fun i hi => congrArg soldK (by rw [e]; (repeat rw [if_neg (by omega)]))), s1]
    exact sm_cg (fun j hj => congrArg soldK (by rw [e]; (repeat rw [if_neg (by omega)])))
  · rw [e]; (repeat rw [if_neg (by omega)]); rw [s2]
    exact sm_cg (fun i hi => by rw [e]; (repeat rw [if_neg (by omega)]))
  · rw [e]; (repeat rw [if_neg (by omega)]); rw [s3]
    exact sm_cg (fun i hi => by rw [e]; (repeat rw [if_neg (by omega)]))
  · rw [e]; (repeat rw [if_neg (by omega)]); rw [s4]
    exact sm_cg (fun i hi => by rw [e]; (repeat rw [if_neg (by omega)]))
  · rw [e 10, e 11]; (repeat rw [if_neg (by omega)]); rw [if_pos rfl]; (repeat rw [if_neg (by omega)]); rw [if_pos rfl]; rw [sm_cg (f := fun i => M (12 + 4 * i)) (g := fun i => N (12 + 4 * i)) (fun i hi => by rw [e]; (repeat rw [if_neg (by omega)]))]
    exact ac2 _ _ _ _ s5
  · intro i hi; rw [e]; (repeat rw [if_neg (by omega)]); exact sg i hi
  · intro j hj; rw [e, e]; (repeat rw [if_neg (by omega)]); exact su j hj
theorem kp_raise {N : Nat → Int32} {ns np no : Nat} (R : RI N ns np no) (s k : Int32) : Kp (pRaise N s k) := by
  unfold pRaise
  by_cases c1 : ¬ (0 ≤ s ∧ s < N 2)
  · rw [if_pos c1]; exact (show Kp (.inl (-1)) from Or.inl rfl)
  rw [if_neg c1]
  by_cases c2 : ¬ (0 ≤ k ∧ k < 3)
  · rw [if_pos c2]; exact (show Kp (.inl (-2)) from Or.inr rfl)
  rw [if_neg c2]
  by_cases c3 : N 3 = 16
  · rw [if_pos c3]; exact (show ¬ (1 : Int32) = 0 by decide)
  rw [if_neg c3]
  by_cases c4 : N (13 + 4 * kOf s) < kArea (kOf k)
  · rw [if_pos c4]; exact (show ¬ (3 : Int32) = 0 by decide)
  rw [if_neg c4]
  obtain ⟨⟨a2, a3, a4, b2, b3, b4, AP, AO⟩, ⟨c, b, e0, e1, hcb⟩, s1, s2, s3, s4, s5, sg, su⟩ := R
  have hfc := fcN_le N no
  obtain ⟨i0, hi0, rfl⟩ := rg_of (x := s) (n := ns) (by omega) (by rw [← a2]; exact Classical.not_not.mp c1)
  obtain ⟨kk, hkk, rfl⟩ := rg_of (x := k) (n := 3) (by omega) (Classical.not_not.mp c2)
  rw [a3] at c3
  have hnp : np < 16 := Nat.lt_of_le_of_ne b3 (fun z => c3 (by rw [z]; rfl))
  obtain ⟨gg, hgg, hg1, hg9⟩ := sg i0 hi0
  clear c4
  rw [a3, kOf_nI (j := np) (by omega), kOf_nI (j := i0) (by omega), kOf_nI (j := kk) (by omega)]
  obtain ⟨M, hM⟩ : ∃ M, M = upd (upd (upd (upd (upd (upd (upd (upd (upd (upd (upd (N) (13 + 4 * i0) (N (13 + 4 * i0) - kArea kk)) (14 + 4 * i0) (N (14 + 4 * i0) + 1)) (60 + 8 * np) (nI kk)) (61 + 8 * np) (N (12 + 4 * i0))) (62 + 8 * np) (0)) (63 + 8 * np) (0)) (64 + 8 * np) (0)) (65 + 8 * np) (0)) (66 + 8 * np) (-4)) (67 + 8 * np) (nI i0)) (3) (nI np + 1) := ⟨_, rfl⟩
  have e : ∀ q, M q = if q = 3 then nI np + 1 else if q = 67 + 8 * np then nI i0 else if q = 66 + 8 * np then -4 else if q = 65 + 8 * np then 0 else if q = 64 + 8 * np then 0 else if q = 63 + 8 * np then 0 else if q = 62 + 8 * np then 0 else if q = 61 + 8 * np then N (12 + 4 * i0) else if q = 60 + 8 * np then nI kk else if q = 14 + 4 * i0 then N (14 + 4 * i0) + 1 else if q = 13 + 4 * i0 then N (13 + 4 * i0) - kArea kk else N q := fun q => by rw [hM]; rfl
  rw [← hM]
  refine ⟨le0 (by omega), ns, np + 1, no, ⟨?_, ?_, ?_, b2, by omega, b4, ?_, ?_⟩, ⟨c, b, ?_, ?_, ?_⟩, ?_, ?_, ?_, ?_, ?_, ?_, ?_⟩
  · rw [e]; (repeat rw [if_neg (by omega)]); exact a2
  · rw [e, if_pos rfl]; exact nI_1 np
  · rw [e]; (repeat rw [if_neg (by omega)]); exact a4
  · intro i hi
    by_cases q : i = np
    · subst q
      refine ⟨?_, ⟨gg, ?_, hg1, hg9⟩, ⟨0, ?_, by omega⟩, ⟨0, ?_, by omega⟩, ⟨0, ?_, by omega⟩⟩
      · rw [e]; (repeat rw [if_neg (by omega)]); rw [if_pos rfl]; exact ⟨by rw [kOf_nI (by omega)], by rw [kOf_nI (by omega)]; exact hkk⟩
      · rw [e]; (repeat rw [if_neg (by omega)]); rw [if_pos rfl]; exact hgg
      · rw [e]; (repeat rw [if_neg (by omega)]); rw [if_pos rfl]; rfl
      · rw [e]; (repeat rw [if_neg (by omega)]); rw [if_pos rfl]; rfl
      · rw [e]; (repeat rw [if_neg (by omega)]); rw [if_pos rfl]; rfl
    · exact (AP i (by omega)).cg (fun q h1 h2 => by rw [e]; (repeat rw [if_neg (by omega)]))
  · exact fun j hj => (AO j hj).cg (fun q h1 h2 => by rw [e]; (repeat rw [if_neg (by omega)]))
  · rw [e]; (repeat rw [if_neg (by omega)]); exact e0
  · rw [e]; (repeat rw [if_neg (by omega)]); exact e1
  · rw [fcN_cg (N := N) (M := M) (fun j hj => by rw [e]; (repeat rw [if_neg (by omega)]))]; omega
  · rw [sm_s, show M (66 + 8 * np) = -4 by rw [e]; (repeat rw [if_neg (by omega)]); rw [if_pos rfl]]
    rw [show soldK (-4) = 0 from rfl, Int32.add_zero]
    rw [sm_cg (f := fun i => soldK (M (66 + 8 * i))) (g := fun i => soldK (N (66 + 8 * i))) (fun i hi => congrArg soldK (by rw [e]; (repeat rw [if_neg (by omega)]))), s1]
    exact sm_cg (fun j hj => congrArg soldK (by rw [e]; (repeat rw [if_neg (by omega)])))
  · rw [sm_s, show M (62 + 8 * np) = 0 by rw [e]; (repeat rw [if_neg (by omega)]); rw [if_pos rfl]]
    rw [Int32.add_zero]
    rw [e]; (repeat rw [if_neg (by omega)]); rw [s2]
    exact sm_cg (fun i hi => by rw [e]; (repeat rw [if_neg (by omega)]))
  · rw [sm_s, show M (64 + 8 * np) = 0 by rw [e]; (repeat rw [if_neg (by omega)]); rw [if_pos rfl]]
    rw [Int32.add_zero]
    rw [e]; (repeat rw [if_neg (by omega)]); rw [s3]
    exact sm_cg (fun i hi => by rw [e]; (repeat rw [if_neg (by omega)]))
  · rw [e]; (repeat rw [if_neg (by omega)]); rw [s4]
    exact sm_cg (fun i hi => by rw [e]; (repeat rw [if_neg (by omega)]))
  · rw [e 10, e 11]; (repeat rw [if_neg (by omega)]); rw [s5, sm_cg (f := fun i => M (12 + 4 * i)) (g := fun i => N (12 + 4 * i)) (fun i hi => by rw [e]; (repeat rw [if_neg (by omega)]))]
  · intro i hi; rw [e]; (repeat rw [if_neg (by omega)]); exact sg i hi
  · intro j hj; rw [e, e]; (repeat rw [if_neg (by omega)]); exact su j hj
theorem kp_hit {N : Nat → Int32} {ns np no : Nat} (R : RI N ns np no) (p x : Int32) : Kp (pHit N p x) := by
  unfold pHit
  by_cases c1 : ¬ (0 ≤ p ∧ p < N 3)
  · rw [if_pos c1]; exact (show Kp (.inl (-1)) from Or.inl rfl)
  rw [if_neg c1]
  by_cases c2 : x < 1 ∨ 99 < x
  · rw [if_pos c2]; exact (show Kp (.inl (-2)) from Or.inr rfl)
  rw [if_neg c2]
  obtain ⟨⟨a2, a3, a4, b2, b3, b4, AP, AO⟩, ⟨c, b, e0, e1, hcb⟩, s1, s2, s3, s4, s5, sg, su⟩ := R
  have hfc := fcN_le N no
  obtain ⟨i0, hi0, rfl⟩ := rg_of (x := p) (n := np) (by omega) (by rw [← a3]; exact Classical.not_not.mp c1)
  obtain ⟨pk, ⟨g, hg, hg1, hg9⟩, ⟨bl, hbl, hbl2⟩, ⟨t, ht, ht9⟩, ⟨r, hr, hr6⟩⟩ := id (AP i0 hi0)
  refine kp_hin (fun hcr => ?_)
  rw [kOf_nI (j := i0) (by omega)] at hcr ⊢
  obtain ⟨xx, hx1, hx9, rfl⟩ : ∃ q, 1 ≤ q ∧ q ≤ 99 ∧ x = nI q := rgx (by omega) (fun z => c2 (Or.inl z)) (fun z => c2 (Or.inr z))
  have hb94 : bl < 94 := by rw [hg, hbl] at hcr; exact crk94 _ pk.2 g (by omega) bl (by omega) hcr
  obtain ⟨M, hM⟩ : ∃ M, M = upd (upd (N) (62 + 8 * i0) (N (62 + 8 * i0) + nI xx)) (5) (N 5 + nI xx) := ⟨_, rfl⟩
  have e : ∀ q, M q = if q = 5 then N 5 + nI xx else if q = 62 + 8 * i0 then N (62 + 8 * i0) + nI xx else N q := fun q => by rw [hM]; rfl
  rw [← hM]
  refine ⟨thick_p _ _ _, ns, np, no, ⟨?_, ?_, ?_, b2, b3, b4, ?_, ?_⟩, ⟨c, b, ?_, ?_, ?_⟩, ?_, ?_, ?_, ?_, ?_, ?_, ?_⟩
  · rw [e]; (repeat rw [if_neg (by omega)]); exact a2
  · rw [e]; (repeat rw [if_neg (by omega)]); exact a3
  · rw [e]; (repeat rw [if_neg (by omega)]); exact a4
  · intro i hi
    by_cases q : i = i0
    · subst q
      refine ⟨?_, ⟨g, ?_, hg1, hg9⟩, ⟨bl + xx, ?_, by omega⟩, ⟨t, ?_, ht9⟩, ⟨r, ?_, hr6⟩⟩
      · rw [e]; (repeat rw [if_neg (by omega)]); exact pk
      · rw [e]; (repeat rw [if_neg (by omega)]); exact hg
      · rw [e]; (repeat rw [if_neg (by omega)]); rw [if_pos rfl, hbl]; exact nI_add _ _
      · rw [e]; (repeat rw [if_neg (by omega)]); exact ht
      · rw [e]; (repeat rw [if_neg (by omega)]); exact hr
    · exact (AP i hi).cg (fun q h1 h2 => by rw [e]; (repeat rw [if_neg (by omega)]))
  · exact fun j hj => (AO j hj).cg (fun q h1 h2 => by rw [e]; (repeat rw [if_neg (by omega)]))
  · rw [e]; (repeat rw [if_neg (by omega)]); exact e0
  · rw [e]; (repeat rw [if_neg (by omega)]); exact e1
  · rw [fcN_cg (N := N) (M := M) (fun j hj => by rw [e]; (repeat rw [if_neg (by omega)]))]; omega
  · rw [sm_cg (f := fun i => soldK (M (66 + 8 * i))) (g := fun i => soldK (N (66 + 8 * i))) (fun i hi => congrArg soldK (by rw [e]; (repeat rw [if_neg (by omega)]))), s1]
    exact sm_cg (fun j hj => congrArg soldK (by rw [e]; (repeat rw [if_neg (by omega)])))
  · rw [e]; rw [if_pos rfl, s2]
    exact (sm_ch (f := fun i => N (62 + 8 * i)) (g := fun i => M (62 + 8 * i)) (i0 := i0) hi0 (show M (62 + 8 * i0) = N (62 + 8 * i0) + nI xx by rw [e]; (repeat rw [if_neg (by omega)]); rw [if_pos rfl]) (fun i hi n => by show M (62 + 8 * i) = N (62 + 8 * i); rw [e]; (repeat rw [if_neg (by omega)]))).symm
  · rw [e]; (repeat rw [if_neg (by omega)]); rw [s3]
    exact sm_cg (fun i hi => by rw [e]; (repeat rw [if_neg (by omega)]))
  · rw [e]; (repeat rw [if_neg (by omega)]); rw [s4]
    exact sm_cg (fun i hi => by rw [e]; (repeat rw [if_neg (by omega)]))
  · rw [e 10, e 11]; (repeat rw [if_neg (by omega)]); rw [s5, sm_cg (f := fun i => M (12 + 4 * i)) (g := fun i => N (12 + 4 * i)) (fun i hi => by rw [e]; (repeat rw [if_neg (by omega)]))]
  · intro i hi; rw [e]; (repeat rw [if_neg (by omega)]); exact sg i hi
  · intro j hj; rw [e, e]; (repeat rw [if_neg (by omega)]); exact su j hj
theorem kp_tin {N : Nat → Int32} {ns np no : Nat} (R : RI N ns np no) (p x : Int32) : Kp (pTin N p x) := by
  unfold pTin
  by_cases c1 : ¬ (0 ≤ p ∧ p < N 3)
  · rw [if_pos c1]; exact (show Kp (.inl (-1)) from Or.inl rfl)
  rw [if_neg c1]
  by_cases c2 : x < 1 ∨ 9 < x
  · rw [if_pos c2]; exact (show Kp (.inl (-2)) from Or.inr rfl)
  rw [if_neg c2]
  obtain ⟨⟨a2, a3, a4, b2, b3, b4, AP, AO⟩, ⟨c, b, e0, e1, hcb⟩, s1, s2, s3, s4, s5, sg, su⟩ := R
  have hfc := fcN_le N no
  obtain ⟨i0, hi0, rfl⟩ := rg_of (x := p) (n := np) (by omega) (by rw [← a3]; exact Classical.not_not.mp c1)
  obtain ⟨pk, ⟨g, hg, hg1, hg9⟩, ⟨bl, hbl, hbl2⟩, ⟨t, ht, ht9⟩, ⟨r, hr, hr6⟩⟩ := id (AP i0 hi0)
  refine kp_hin (fun hcr => ?_)
  rw [kOf_nI (j := i0) (by omega)] at hcr ⊢
  obtain ⟨xx, hx1, hx9, rfl⟩ : ∃ q, 1 ≤ q ∧ q ≤ 9 ∧ x = nI q := rgx (by omega) (fun z => c2 (Or.inl z)) (fun z => c2 (Or.inr z))
  obtain ⟨hbe, hb50⟩ := bar_e _ pk.2 xx (by omega)
  rw [hbe]
  by_cases c3 : N (62 + 8 * i0) < kSm (kOf (N (60 + 8 * i0)))
  · rw [if_pos c3]; exact (show ¬ (6 : Int32) = 0 by decide)
  rw [if_neg c3]
  by_cases c4 : 9 < N (63 + 8 * i0) + nI xx
  · rw [if_pos c4]; exact (show ¬ (7 : Int32) = 0 by decide)
  rw [if_neg c4]
  by_cases c5 : N 1 < nI (barK (kOf (N (60 + 8 * i0))) xx)
  · rw [if_pos c5]; exact (show ¬ (8 : Int32) = 0 by decide)
  rw [if_neg c5]
  rw [ht, nI_add] at c4
  have ht2 : t + xx ≤ 9 := Nat.not_lt.mp fun z => c4 (show nI 9 < nI (t + xx) from nI_lt z (by omega))
  rw [e1] at c5
  have hbb : barK (kOf (N (60 + 8 * i0))) xx ≤ b := Nat.not_lt.mp fun z => c5 (nI_lt z (by omega))
  obtain ⟨M, hM⟩ : ∃ M, M = upd (upd (upd (upd (N) (63 + 8 * i0) (N (63 + 8 * i0) + nI xx)) (1) (N 1 - nI (barK (kOf (N (60 + 8 * i0))) xx))) (8) (N 8 + nI (barK (kOf (N (60 + 8 * i0))) xx))) (7) (N 7 + nI xx) := ⟨_, rfl⟩
  have e : ∀ q, M q = if q = 7 then N 7 + nI xx else if q = 8 then N 8 + nI (barK (kOf (N (60 + 8 * i0))) xx) else if q = 1 then N 1 - nI (barK (kOf (N (60 + 8 * i0))) xx) else if q = 63 + 8 * i0 then N (63 + 8 * i0) + nI xx else N q := fun q => by rw [hM]; rfl
  rw [← hM]
  refine ⟨by rw [ht, nI_add]; exact le0 (by omega), ns, np, no, ⟨?_, ?_, ?_, b2, b3, b4, ?_, ?_⟩, ⟨c, (b - barK (kOf (N (60 + 8 * i0))) xx), ?_, ?_, ?_⟩, ?_, ?_, ?_, ?_, ?_, ?_, ?_⟩
  · rw [e]; (repeat rw [if_neg (by omega)]); exact a2
  · rw [e]; (repeat rw [if_neg (by omega)]); exact a3
  · rw [e]; (repeat rw [if_neg (by omega)]); exact a4
  · intro i hi
    by_cases q : i = i0
    · subst q
      refine ⟨?_, ⟨g, ?_, hg1, hg9⟩, ⟨bl, ?_, hbl2⟩, ⟨t + xx, ?_, ht2⟩, ⟨r, ?_, hr6⟩⟩
      · rw [e]; (repeat rw [if_neg (by omega)]); exact pk
      · rw [e]; (repeat rw [if_neg (by omega)]); exact hg
      · rw [e]; (repeat rw [if_neg (by omega)]); exact hbl
      · rw [e]; (repeat rw [if_neg (by omega)]); rw [if_pos rfl, ht]; exact nI_add _ _
      · rw [e]; (repeat rw [if_neg (by omega)]); exact hr
    · exact (AP i hi).cg (fun q h1 h2 => by rw [e]; (repeat rw [if_neg (by omega)]))
  · exact fun j hj => (AO j hj).cg (fun q h1 h2 => by rw [e]; (repeat rw [if_neg (by omega)]))
  · rw [e]; (repeat rw [if_neg (by omega)]); exact e0
  · rw [e]; (repeat rw [if_neg (by omega)]); rw [if_pos rfl, e1]; exact nI_sub' hbb
  · rw [fcN_cg (N := N) (M := M) (fun j hj => by rw [e]; (repeat rw [if_neg (by omega)]))]; omega
  · rw [sm_cg (f := fun i => soldK (M (66 + 8 * i))) (g := fun i => soldK (N (66 + 8 * i))) (fun i hi => congrArg soldK (by rw [e]; (repeat rw [if_neg (by omega)]))), s1]
    exact sm_cg (fun j hj => congrArg soldK (by rw [e]; (repeat rw [if_neg (by omega)])))
  · rw [e]; (repeat rw [if_neg (by omega)]); rw [s2]
    exact sm_cg (fun i hi => by rw [e]; (repeat rw [if_neg (by omega)]))
  · rw [e]; (repeat rw [if_neg (by omega)]); rw [s3]
    exact sm_cg (fun i hi => by rw [e]; (repeat rw [if_neg (by omega)]))
  · rw [e]; (repeat rw [if_neg (by omega)]); rw [s4]
    exact sm_cg (fun i hi => by rw [e]; (repeat rw [if_neg (by omega)]))
  · rw [e 10, e 11]; (repeat rw [if_neg (by omega)]); rw [s5, sm_cg (f := fun i => M (12 + 4 * i)) (g := fun i => N (12 + 4 * i)) (fun i hi => by rw [e]; (repeat rw [if_neg (by omega)]))]
  · intro i hi; rw [e]; (repeat rw [if_neg (by omega)]); exact sg i hi
  · intro j hj; rw [e, e]; (repeat rw [if_neg (by omega)]); exact su j hj
theorem kp_cook {N : Nat → Int32} {ns np no : Nat} (R : RI N ns np no) (p x : Int32) : Kp (pCook N p x) := by
  unfold pCook
  by_cases c1 : ¬ (0 ≤ p ∧ p < N 3)
  · rw [if_pos c1]; exact (show Kp (.inl (-1)) from Or.inl rfl)
  rw [if_neg c1]
  by_cases c2 : x < 1 ∨ 99 < x
  · rw [if_pos c2]; exact (show Kp (.inl (-2)) from Or.inr rfl)
  rw [if_neg c2]
  obtain ⟨⟨a2, a3, a4, b2, b3, b4, AP, AO⟩, ⟨c, b, e0, e1, hcb⟩, s1, s2, s3, s4, s5, sg, su⟩ := R
  have hfc := fcN_le N no
  obtain ⟨i0, hi0, rfl⟩ := rg_of (x := p) (n := np) (by omega) (by rw [← a3]; exact Classical.not_not.mp c1)
  obtain ⟨pk, ⟨g, hg, hg1, hg9⟩, ⟨bl, hbl, hbl2⟩, ⟨t, ht, ht9⟩, ⟨r, hr, hr6⟩⟩ := id (AP i0 hi0)
  refine kp_hin (fun hcr => ?_)
  rw [kOf_nI (j := i0) (by omega)] at hcr ⊢
  obtain ⟨xx, hx1, hx9, rfl⟩ : ∃ q, 1 ≤ q ∧ q ≤ 99 ∧ x = nI q := rgx (by omega) (fun z => c2 (Or.inl z)) (fun z => c2 (Or.inr z))
  by_cases c3 : N (63 + 8 * i0) = 0
  · rw [if_pos c3]; exact (show ¬ (9 : Int32) = 0 by decide)
  rw [if_neg c3]
  obtain ⟨w, hw⟩ : ∃ w, w = wornK (kOf (N (60 + 8 * i0))) (N (63 + 8 * i0)) (N (65 + 8 * i0)) (nI xx) := ⟨_, rfl⟩
  rw [← hw]
  have hw2 : w = min t ((r + xx) / kMealN (kOf (N (60 + 8 * i0)))) := by rw [hw, ht, hr]; unfold wornK; rw [kOf_nI (by omega), kOf_nI (by omega), kOf_nI (by omega)]
  rw [ht, hr, kOf_nI (j := t) (by omega), kOf_nI (j := r) (by omega), kOf_nI (j := xx) (by omega)]
  obtain ⟨r2, hr2⟩ : ∃ r2, r2 = (if t - w = 0 then 0 else r + xx - w * kMealN (kOf (N (60 + 8 * i0)))) := ⟨_, rfl⟩
  have hr26 : r2 ≤ 6 := by
    have hk6 := kml _ pk.2
    rw [hr2]
    split
    · omega
    · rename_i hz
      have e2 : w = (r + xx) / kMealN (kOf (N (60 + 8 * i0))) := by omega
      have e3 := Nat.div_add_mod (r + xx) (kMealN (kOf (N (60 + 8 * i0))))
      have e4 := Nat.mod_lt (r + xx) (show 0 < kMealN (kOf (N (60 + 8 * i0))) by omega)
      rw [← e2, Nat.mul_comm] at e3
      omega
  rw [show (if t - w = 0 then (0 : Int32) else nI (r + xx - w * kMealN (kOf (N (60 + 8 * i0))))) = nI r2 by rw [hr2]; by_cases z : t - w = 0 <;> first | (rw [if_pos z, if_pos z]; rfl) | rw [if_neg z, if_neg z]]
  obtain ⟨M, hM⟩ : ∃ M, M = upd (upd (upd (upd (N) (63 + 8 * i0) (nI (t - w))) (65 + 8 * i0) (nI r2)) (64 + 8 * i0) (N (64 + 8 * i0) + nI xx)) (6) (N 6 + nI xx) := ⟨_, rfl⟩
  have e : ∀ q, M q = if q = 6 then N 6 + nI xx else if q = 64 + 8 * i0 then N (64 + 8 * i0) + nI xx else if q = 65 + 8 * i0 then nI r2 else if q = 63 + 8 * i0 then nI (t - w) else N q := fun q => by rw [hM]; rfl
  rw [← hM]
  refine ⟨le0 (by omega), ns, np, no, ⟨?_, ?_, ?_, b2, b3, b4, ?_, ?_⟩, ⟨c, b, ?_, ?_, ?_⟩, ?_, ?_, ?_, ?_, ?_, ?_, ?_⟩
  · rw [e]; (repeat rw [if_neg (by omega)]); exact a2
  · rw [e]; (repeat rw [if_neg (by omega)]); exact a3
  · rw [e]; (repeat rw [if_neg (by omega)]); exact a4
  · intro i hi
    by_cases q : i = i0
    · subst q
      refine ⟨?_, ⟨g, ?_, hg1, hg9⟩, ⟨bl, ?_, hbl2⟩, ⟨t - w, ?_, by omega⟩, ⟨r2, ?_, hr26⟩⟩
      · rw [e]; (repeat rw [if_neg (by omega)]); exact pk
      · rw [e]; (repeat rw [if_neg (by omega)]); exact hg
      · rw [e]; (repeat rw [if_neg (by omega)]); exact hbl
      · rw [e]; (repeat rw [if_neg (by omega)]); rw [if_pos rfl]
      · rw [e]; (repeat rw [if_neg (by omega)]); rw [if_pos rfl]
    · exact (AP i hi).cg (fun q h1 h2 => by rw [e]; (repeat rw [if_neg (by omega)]))
  · exact fun j hj => (AO j hj).cg (fun q h1 h2 => by rw [e]; (repeat rw [if_neg (by omega)]))
  · rw [e]; (repeat rw [if_neg (by omega)]); exact e0
  · rw [e]; (repeat rw [if_neg (by omega)]); exact e1
  · rw [fcN_cg (N := N) (M := M) (fun j hj => by rw [e]; (repeat rw [if_neg (by omega)]))]; omega
  · rw [sm_cg (f := fun i => soldK (M (66 + 8 * i))) (g := fun i => soldK (N (66 + 8 * i))) (fun i hi => congrArg soldK (by rw [e]; (repeat rw [if_neg (by omega)]))), s1]
    exact sm_cg (fun j hj => congrArg soldK (by rw [e]; (repeat rw [if_neg (by omega)])))
  · rw [e]; (repeat rw [if_neg (by omega)]); rw [s2]
    exact sm_cg (fun i hi => by rw [e]; (repeat rw [if_neg (by omega)]))
  · rw [e]; rw [if_pos rfl, s3]
    exact (sm_ch (f := fun i => N (64 + 8 * i)) (g := fun i => M (64 + 8 * i)) (i0 := i0) hi0 (show M (64 + 8 * i0) = N (64 + 8 * i0) + nI xx by rw [e]; (repeat rw [if_neg (by omega)]); rw [if_pos rfl]) (fun i hi n => by show M (64 + 8 * i) = N (64 + 8 * i); rw [e]; (repeat rw [if_neg (by omega)]))).symm
  · rw [e]; (repeat rw [if_neg (by omega)]); rw [s4]
    exact sm_cg (fun i hi => by rw [e]; (repeat rw [if_neg (by omega)]))
  · rw [e 10, e 11]; (repeat rw [if_neg (by omega)]); rw [s5, sm_cg (f := fun i => M (12 + 4 * i)) (g := fun i => N (12 + 4 * i)) (fun i hi => by rw [e]; (repeat rw [if_neg (by omega)]))]
  · intro i hi; rw [e]; (repeat rw [if_neg (by omega)]); exact sg i hi
  · intro j hj; rw [e, e]; (repeat rw [if_neg (by omega)]); exact su j hj
theorem kp_baker {N : Nat → Int32} {ns np no : Nat} (R : RI N ns np no) (k t p : Int32) : Kp (pBaker N k t p) := by
  unfold pBaker
  by_cases c1 : ¬ (0 ≤ k ∧ k < 3) ∨ t < 1 ∨ 9 < t ∨ p < 1 ∨ 99 < p
  · rw [if_pos c1]; exact (show Kp (.inl (-2)) from Or.inr rfl)
  rw [if_neg c1]
  by_cases c2 : N 4 = 8
  · rw [if_pos c2]; exact (show ¬ (1 : Int32) = 0 by decide)
  rw [if_neg c2]
  obtain ⟨⟨a2, a3, a4, b2, b3, b4, AP, AO⟩, ⟨c, b, e0, e1, hcb⟩, s1, s2, s3, s4, s5, sg, su⟩ := R
  have hfc := fcN_le N no
  obtain ⟨kk, hkk, rfl⟩ := rg_of (x := k) (n := 3) (by omega) (Classical.not_not.mp fun z => c1 (Or.inl z))
  obtain ⟨tt, ht1, ht9, rfl⟩ : ∃ q, 1 ≤ q ∧ q ≤ 9 ∧ t = nI q := rgx (by omega) (fun z => c1 (Or.inr (Or.inl z))) (fun z => c1 (Or.inr (Or.inr (Or.inl z))))
  obtain ⟨pp, hp1, hp9, rfl⟩ : ∃ q, 1 ≤ q ∧ q ≤ 99 ∧ p = nI q := rgx (by omega) (fun z => c1 (Or.inr (Or.inr (Or.inr (Or.inl z))))) (fun z => c1 (Or.inr (Or.inr (Or.inr (Or.inr z)))))
  rw [a4] at c2
  have hno : no < 8 := Nat.lt_of_le_of_ne b4 (fun z => c2 (by rw [z]; rfl))
  rw [a4, kOf_nI (j := no) (by omega)]
  obtain ⟨M, hM⟩ : ∃ M, M = upd (upd (upd (upd (upd (upd (N) (188 + 5 * no) (nI kk)) (189 + 5 * no) (nI tt)) (190 + 5 * no) (nI pp)) (191 + 5 * no) (-4)) (192 + 5 * no) (0)) (4) (nI no + 1) := ⟨_, rfl⟩
  have e : ∀ q, M q = if q = 4 then nI no + 1 else if q = 192 + 5 * no then 0 else if q = 191 + 5 * no then -4 else if q = 190 + 5 * no then nI pp else if q = 189 + 5 * no then nI tt else if q = 188 + 5 * no then nI kk else N q := fun q => by rw [hM]; rfl
  rw [← hM]
  refine ⟨le0 (by omega), ns, np, no + 1, ⟨?_, ?_, ?_, b2, b3, by omega, ?_, ?_⟩, ⟨c, b, ?_, ?_, ?_⟩, ?_, ?_, ?_, ?_, ?_, ?_, ?_⟩
  · rw [e]; (repeat rw [if_neg (by omega)]); exact a2
  · rw [e]; (repeat rw [if_neg (by omega)]); exact a3
  · rw [e, if_pos rfl]; exact nI_1 no
  · exact fun i hi => (AP i hi).cg (fun q h1 h2 => by rw [e]; (repeat rw [if_neg (by omega)]))
  · intro j hj
    by_cases q : j = no
    · subst q
      refine ⟨?_, ⟨tt, ?_, ht1, ht9⟩, ⟨pp, ?_, hp1, hp9⟩⟩
      · rw [e]; (repeat rw [if_neg (by omega)]); rw [if_pos rfl]; exact ⟨by rw [kOf_nI (by omega)], by rw [kOf_nI (by omega)]; exact hkk⟩
      · rw [e]; (repeat rw [if_neg (by omega)]); rw [if_pos rfl]
      · rw [e]; (repeat rw [if_neg (by omega)]); rw [if_pos rfl]
    · exact (AO j (by omega)).cg (fun q h1 h2 => by rw [e]; (repeat rw [if_neg (by omega)]))
  · rw [e]; (repeat rw [if_neg (by omega)]); exact e0
  · rw [e]; (repeat rw [if_neg (by omega)]); exact e1
  · rw [fcN_s, fcN_cg (N := N) (M := M) (fun j hj => by rw [e]; (repeat rw [if_neg (by omega)]))]; omega
  · rw [sm_s (fun j => soldK (M (191 + 5 * j))), show M (191 + 5 * no) = -4 by rw [e]; (repeat rw [if_neg (by omega)]); rw [if_pos rfl]]
    rw [show soldK (-4) = 0 from rfl, Int32.add_zero]
    rw [sm_cg (f := fun i => soldK (M (66 + 8 * i))) (g := fun i => soldK (N (66 + 8 * i))) (fun i hi => congrArg soldK (by rw [e]; (repeat rw [if_neg (by omega)]))), s1]
    exact sm_cg (fun j hj => congrArg soldK (by rw [e]; (repeat rw [if_neg (by omega)])))
  · rw [e]; (repeat rw [if_neg (by omega)]); rw [s2]
    exact sm_cg (fun i hi => by rw [e]; (repeat rw [if_neg (by omega)]))
  · rw [e]; (repeat rw [if_neg (by omega)]); rw [s3]
    exact sm_cg (fun i hi => by rw [e]; (repeat rw [if_neg (by omega)]))
  · rw [sm_s, show M (192 + 5 * no) = 0 by rw [e]; (repeat rw [if_neg (by omega)]); rw [if_pos rfl]]
    rw [Int32.add_zero]
    rw [e]; (repeat rw [if_neg (by omega)]); rw [s4]
    exact sm_cg (fun i hi => by rw [e]; (repeat rw [if_neg (by omega)]))
  · rw [e 10, e 11]; (repeat rw [if_neg (by omega)]); rw [s5, sm_cg (f := fun i => M (12 + 4 * i)) (g := fun i => N (12 + 4 * i)) (fun i hi => by rw [e]; (repeat rw [if_neg (by omega)]))]
  · intro i hi; rw [e]; (repeat rw [if_neg (by omega)]); exact sg i hi
  · intro j hj
    by_cases q : j = no
    · subst q; intro _; rw [e]; (repeat rw [if_neg (by omega)]); rw [if_pos rfl]
    · rw [e, e]; (repeat rw [if_neg (by omega)]); exact su j (by omega)
theorem kp_sell {N : Nat → Int32} {ns np no : Nat} (R : RI N ns np no) (p o : Int32) : Kp (pSell N p o) := by
  unfold pSell
  by_cases c1 : ¬ ((0 ≤ p ∧ p < N 3) ∧ (0 ≤ o ∧ o < N 4))
  · rw [if_pos c1]; exact (show Kp (.inl (-1)) from Or.inl rfl)
  rw [if_neg c1]
  by_cases c2 : ¬ soldK (N (191 + 5 * kOf o)) = 0
  · rw [if_pos c2]; exact (show ¬ (10 : Int32) = 0 by decide)
  rw [if_neg c2]
  by_cases c3 : ¬ soldK (N (66 + 8 * kOf p)) = 0
  · rw [if_pos c3]; exact (show ¬ (4 : Int32) = 0 by decide)
  rw [if_neg c3]
  by_cases c4 : ¬ lackN N (kOf p) (kOf o) = 0
  · rw [if_pos c4]; exact (show ¬ (11 : Int32) = 0 by decide)
  rw [if_neg c4]
  obtain ⟨⟨a2, a3, a4, b2, b3, b4, AP, AO⟩, ⟨c, b, e0, e1, hcb⟩, s1, s2, s3, s4, s5, sg, su⟩ := R
  have hfc := fcN_le N no
  have c1b := Classical.not_not.mp c1
  obtain ⟨i0, hi0, rfl⟩ := rg_of (x := p) (n := np) (by omega) (by rw [← a3]; exact c1b.1)
  obtain ⟨j0, hj0, rfl⟩ := rg_of (x := o) (n := no) (by omega) (by rw [← a4]; exact c1b.2)
  clear c4 c1 c1b
  rw [kOf_nI (j := j0) (by omega)] at c2
  rw [kOf_nI (j := i0) (by omega)] at c3
  rw [kOf_nI (j := i0) (by omega), kOf_nI (j := j0) (by omega)]
  have k2 := soldK_0 (Classical.not_not.mp c2)
  have k3 := soldK_0 (Classical.not_not.mp c3)
  obtain ⟨-, -, ⟨pp, hpp, hp1, hp9⟩⟩ := id (AO j0 hj0)
  obtain ⟨y, hy, hy99⟩ : ∃ y, payK (N (64 + 8 * i0)) (N (190 + 5 * j0)) = nI y ∧ y ≤ 99 := by
    unfold payK
    rw [hpp]
    split
    · exact ⟨pp, rfl, hp9⟩
    · exact ⟨pp / 2, pay_e pp (by omega), by omega⟩
  rw [hy]
  obtain ⟨so, sno⟩ := soldK_nI (n := j0) (by omega)
  obtain ⟨sp, snp⟩ := soldK_nI (n := i0) (by omega)
  obtain ⟨M, hM⟩ : ∃ M, M = upd (upd (upd (upd (upd (N) (66 + 8 * i0) (nI j0)) (191 + 5 * j0) (nI i0)) (192 + 5 * j0) (nI y)) (0) (N 0 + nI y)) (9) (N 9 + nI y) := ⟨_, rfl⟩
  have e : ∀ q, M q = if q = 9 then N 9 + nI y else if q = 0 then N 0 + nI y else if q = 192 + 5 * j0 then nI y else if q = 191 + 5 * j0 then nI i0 else if q = 66 + 8 * i0 then nI j0 else N q := fun q => by rw [hM]; rfl
  rw [← hM]
  refine ⟨by rw [e0, nI_add]; exact le0 (by omega), ns, np, no, ⟨?_, ?_, ?_, b2, b3, b4, ?_, ?_⟩, ⟨(c + y), b, ?_, ?_, ?_⟩, ?_, ?_, ?_, ?_, ?_, ?_, ?_⟩
  · rw [e]; (repeat rw [if_neg (by omega)]); exact a2
  · rw [e]; (repeat rw [if_neg (by omega)]); exact a3
  · rw [e]; (repeat rw [if_neg (by omega)]); exact a4
  · intro i hi
    refine ⟨?_, ?_, ?_, ?_, ?_⟩
    · rw [e]; (repeat rw [if_neg (by omega)]); exact (AP i hi).1
    · rw [e]; (repeat rw [if_neg (by omega)]); exact (AP i hi).2.1
    · rw [e]; (repeat rw [if_neg (by omega)]); exact (AP i hi).2.2.1
    · rw [e]; (repeat rw [if_neg (by omega)]); exact (AP i hi).2.2.2.1
    · rw [e]; (repeat rw [if_neg (by omega)]); exact (AP i hi).2.2.2.2
  · exact fun j hj => (AO j hj).cg (fun q h1 h2 => by rw [e]; (repeat rw [if_neg (by omega)]))
  · rw [e]; (repeat rw [if_neg (by omega)]); rw [if_pos rfl, e0]; exact nI_add _ _
  · rw [e]; (repeat rw [if_neg (by omega)]); exact e1
  · rw [fcN_ch (N := N) (M := M) hj0 k2 (by rw [e]; (repeat rw [if_neg (by omega)]); rw [if_pos rfl]; exact snp) (fun j hj n => by rw [e]; (repeat rw [if_neg (by omega)]))]; omega
  · rw [sm_ch (f := fun i => soldK (N (66 + 8 * i))) (g := fun i => soldK (M (66 + 8 * i))) (i0 := i0) (d := 1) hi0 (by show soldK (M (66 + 8 * i0)) = soldK (N (66 + 8 * i0)) + 1; rw [k3, e]; (repeat rw [if_neg (by omega)]); rw [if_pos rfl, so]; rfl) (fun i hi n => congrArg soldK (by rw [e]; (repeat rw [if_neg (by omega)]))), s1]
    exact (sm_ch (f := fun j => soldK (N (191 + 5 * j))) (g := fun j => soldK (M (191 + 5 * j))) (i0 := j0) (d := 1) hj0 (by show soldK (M (191 + 5 * j0)) = soldK (N (191 + 5 * j0)) + 1; rw [k2, e]; (repeat rw [if_neg (by omega)]); rw [if_pos rfl, sp]; rfl) (fun i hi n => congrArg soldK (by rw [e]; (repeat rw [if_neg (by omega)])))).symm
  · rw [e]; (repeat rw [if_neg (by omega)]); rw [s2]
    exact sm_cg (fun i hi => by rw [e]; (repeat rw [if_neg (by omega)]))
  · rw [e]; (repeat rw [if_neg (by omega)]); rw [s3]
    exact sm_cg (fun i hi => by rw [e]; (repeat rw [if_neg (by omega)]))
  · rw [e, if_pos rfl, s4]
    exact (sm_ch (f := fun j => N (192 + 5 * j)) (g := fun j => M (192 + 5 * j)) (i0 := j0) hj0 (show M (192 + 5 * j0) = N (192 + 5 * j0) + nI y by rw [su j0 hj0 k2, e]; (repeat rw [if_neg (by omega)]); rw [if_pos rfl, Int32.zero_add]) (fun i hi n => by show M (192 + 5 * i) = N (192 + 5 * i); rw [e]; (repeat rw [if_neg (by omega)]))).symm
  · rw [e 10, e 11]; (repeat rw [if_neg (by omega)]); rw [s5, sm_cg (f := fun i => M (12 + 4 * i)) (g := fun i => N (12 + 4 * i)) (fun i hi => by rw [e]; (repeat rw [if_neg (by omega)]))]
  · intro i hi; rw [e]; (repeat rw [if_neg (by omega)]); exact sg i hi
  · intro j hj
    by_cases q : j = j0
    · subst q; rw [e]; (repeat rw [if_neg (by omega)]); rw [if_pos rfl]; exact fun z => absurd z snp
    · rw [e, e]; (repeat rw [if_neg (by omega)]); exact su j hj
theorem kp_do {N : Nat → Int32} {ns np no : Nat} (R : RI N ns np no) (c : Nat × Int32 × Int32) : Kp (pDo N c) := by
  unfold pDo
  split; · exact kp_raise R _ _
  split; · exact kp_hit R _ _
  split; · exact kp_tin R _ _
  split; · exact kp_cook R _ _
  split; · exact kp_sell R _ _
  exact kp_bars R _
theorem clN_e (N : Nat → Int32) (q : Nat) (hq : q < 228) : clN N q = if q = 11 then 20 else if q = 1 then 20 else if q = 0 then 30 else 0 := by
  unfold clN zfN upd
  split; · rfl
  split; · rfl
  split; · rfl
  exact if_pos hq
theorem RI_cl (N : Nat → Int32) : RI (clN N) 0 0 0 := by
  have e := clN_e N
  refine ⟨⟨?_, ?_, ?_, by omega, by omega, by omega, fun i hi => absurd hi (Nat.not_lt_zero i), fun i hi => absurd hi (Nat.not_lt_zero i)⟩, ⟨30, 20, ?_, ?_, by omega⟩, rfl, ?_, ?_, ?_, ?_, fun i hi => absurd hi (Nat.not_lt_zero i), fun i hi => absurd hi (Nat.not_lt_zero i)⟩ <;> first | (rw [e _ (by omega)]; rfl) | (rw [e _ (by omega), e _ (by omega)]; rfl)
theorem newRow_cl (N : Nat → Int32) : newRow (clN N) := by
  have e := clN_e N
  refine ⟨?_, ?_, ?_, ?_, ?_, ?_, ?_, ?_⟩ <;> (rw [e _ (by omega)]; rfl)
