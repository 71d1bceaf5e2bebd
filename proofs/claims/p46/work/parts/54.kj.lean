/-! ===== what holds of a row all along, beside RI ===== -/
def usK (N : Nat → Int32) (t i : Nat) : Int32 := if N (67 + 8 * i) = nI t then kArea (kOf (N (60 + 8 * i))) else 0
def usC (N : Nat → Int32) (t i : Nat) : Int32 := if N (67 + 8 * i) = nI t then 1 else 0
/-- pot p is good for order j, and paid for it -/
def Fit (N : Nat → Int32) (p j : Nat) : Prop := N (60 + 8 * p) = N (188 + 5 * j) ∧ lackN N p j = 0 ∧ N (192 + 5 * j) = payK (N (64 + 8 * p)) (N (190 + 5 * j))
def J1 (N : Nat → Int32) (ns np : Nat) : Prop := ∀ i, i < np → ∃ s, s < ns ∧ N (67 + 8 * i) = nI s ∧ N (61 + 8 * i) = N (12 + 4 * s)
def J2 (N : Nat → Int32) (ns np : Nat) : Prop := ∀ t, t < ns → N (13 + 4 * t) + sm (usK N t) np = N (15 + 4 * t) ∧ N (14 + 4 * t) = sm (usC N t) np
def J3 (N : Nat → Int32) (np : Nat) : Prop := ∀ i, i < np → N (63 + 8 * i) = 0 ∨ ¬ N (62 + 8 * i) < kSm (kOf (N (60 + 8 * i)))
def J4 (N : Nat → Int32) (np no : Nat) : Prop := ∀ j, j < no → N (191 + 5 * j) = -4 ∨ ∃ p, p < np ∧ N (191 + 5 * j) = nI p ∧ N (66 + 8 * p) = nI j ∧ Fit N p j
def J5 (N : Nat → Int32) (ns np : Nat) : Prop := sm (fun i => N (13 + 4 * i) * N (12 + 4 * i)) ns + sm (fun i => kArea (kOf (N (60 + 8 * i))) * N (61 + 8 * i)) np = sm (fun i => N (15 + 4 * i) * N (12 + 4 * i)) ns
def J6 (N : Nat → Int32) (ns no : Nat) : Prop := N 0 + sm (fun i => N (12 + 4 * i)) ns + N 11 = 50 + sm (fun j => N (192 + 5 * j)) no
def RJ (N : Nat → Int32) (ns np no : Nat) : Prop := J1 N ns np ∧ J2 N ns np ∧ J3 N np ∧ J4 N np no ∧ J5 N ns np ∧ J6 N ns no ∧ N 1 + N 8 = N 11
theorem J1.cg {N M : Nat → Int32} {ns np : Nat} (J : J1 N ns np) (hp : ∀ i, i < np → M (67 + 8 * i) = N (67 + 8 * i) ∧ M (61 + 8 * i) = N (61 + 8 * i)) (hs : ∀ s, s < ns → M (12 + 4 * s) = N (12 + 4 * s)) : J1 M ns np := by
  intro i hi
  obtain ⟨s, h1, h2, h3⟩ := J i hi
  exact ⟨s, h1, by rw [(hp i hi).1]; exact h2, by rw [(hp i hi).2, hs s h1]; exact h3⟩
theorem J2.cg {N M : Nat → Int32} {ns np : Nat} (J : J2 N ns np) (hp : ∀ i, i < np → M (67 + 8 * i) = N (67 + 8 * i) ∧ M (60 + 8 * i) = N (60 + 8 * i)) (hs : ∀ s, s < ns → M (13 + 4 * s) = N (13 + 4 * s) ∧ M (14 + 4 * s) = N (14 + 4 * s) ∧ M (15 + 4 * s) = N (15 + 4 * s)) : J2 M ns np := by
  intro t ht
  obtain ⟨h1, h2⟩ := J t ht
  obtain ⟨a, b, c⟩ := hs t ht
  have e1 : sm (usK M t) np = sm (usK N t) np := sm_cg (fun i hi => by unfold usK; rw [(hp i hi).1, (hp i hi).2])
  have e2 : sm (usC M t) np = sm (usC N t) np := sm_cg (fun i hi => by unfold usC; rw [(hp i hi).1])
  exact ⟨by rw [a, e1, c]; exact h1, by rw [b, e2]; exact h2⟩
theorem J3.cg {N M : Nat → Int32} {np : Nat} (J : J3 N np) (hp : ∀ i, i < np → M (60 + 8 * i) = N (60 + 8 * i) ∧ M (62 + 8 * i) = N (62 + 8 * i) ∧ M (63 + 8 * i) = N (63 + 8 * i)) : J3 M np := by
  intro i hi
  obtain ⟨a, b, c⟩ := hp i hi
  rw [a, b, c]; exact J i hi
theorem Fit.cg {N M : Nat → Int32} {p j : Nat} (F : Fit N p j) (hp : ∀ q, 60 + 8 * p ≤ q → q < 66 + 8 * p → M q = N q) (hj : ∀ q, 188 + 5 * j ≤ q → q < 193 + 5 * j → M q = N q) : Fit M p j := by
  unfold Fit lackN at *
  rw [hp (60 + 8 * p) (by omega) (by omega), hp (61 + 8 * p) (by omega) (by omega), hp (62 + 8 * p) (by omega) (by omega), hp (63 + 8 * p) (by omega) (by omega), hp (64 + 8 * p) (by omega) (by omega), hj (188 + 5 * j) (by omega) (by omega), hj (189 + 5 * j) (by omega) (by omega), hj (190 + 5 * j) (by omega) (by omega), hj (192 + 5 * j) (by omega) (by omega)]
  exact F
theorem J4.cg {N M : Nat → Int32} {np no : Nat} (J : J4 N np no) (hp : ∀ p, p < np → (∃ j, j < no ∧ N (66 + 8 * p) = nI j) → ∀ q, 60 + 8 * p ≤ q → q < 67 + 8 * p → M q = N q) (hj : ∀ j, j < no → ∀ q, 188 + 5 * j ≤ q → q < 193 + 5 * j → M q = N q) : J4 M np no := by
  intro j hj0
  rw [hj j hj0 (191 + 5 * j) (by omega) (by omega)]
  rcases J j hj0 with h | ⟨p, h1, h2, h3, F⟩
  · exact Or.inl h
  · exact Or.inr ⟨p, h1, h2, by rw [hp p h1 ⟨j, hj0, h3⟩ _ (by omega) (by omega)]; exact h3, F.cg (fun q a b => hp p h1 ⟨j, hj0, h3⟩ q a (by omega)) (hj j hj0)⟩
theorem J5.cg {N M : Nat → Int32} {ns np : Nat} (J : J5 N ns np) (hp : ∀ i, i < np → M (60 + 8 * i) = N (60 + 8 * i) ∧ M (61 + 8 * i) = N (61 + 8 * i)) (hs : ∀ s, s < ns → M (12 + 4 * s) = N (12 + 4 * s) ∧ M (13 + 4 * s) = N (13 + 4 * s) ∧ M (15 + 4 * s) = N (15 + 4 * s)) : J5 M ns np := by
  unfold J5 at *
  rw [sm_cg (f := fun i => M (13 + 4 * i) * M (12 + 4 * i)) (g := fun i => N (13 + 4 * i) * N (12 + 4 * i)) (fun i hi => by rw [(hs i hi).1, (hs i hi).2.1]), sm_cg (f := fun i => M (15 + 4 * i) * M (12 + 4 * i)) (g := fun i => N (15 + 4 * i) * N (12 + 4 * i)) (fun i hi => by rw [(hs i hi).1, (hs i hi).2.2]), sm_cg (f := fun i => kArea (kOf (M (60 + 8 * i))) * M (61 + 8 * i)) (g := fun i => kArea (kOf (N (60 + 8 * i))) * N (61 + 8 * i)) (fun i hi => by rw [(hp i hi).1, (hp i hi).2])]
  exact J
theorem J6.cg {N M : Nat → Int32} {ns no : Nat} (J : J6 N ns no) (h0 : M 0 = N 0) (h11 : M 11 = N 11) (hs : ∀ s, s < ns → M (12 + 4 * s) = N (12 + 4 * s)) (hj : ∀ j, j < no → M (192 + 5 * j) = N (192 + 5 * j)) : J6 M ns no := by
  unfold J6 at *
  rw [h0, h11, sm_cg (f := fun i => M (12 + 4 * i)) (g := fun i => N (12 + 4 * i)) hs, sm_cg (f := fun i => M (192 + 5 * i)) (g := fun i => N (192 + 5 * i)) hj]
  exact J
/-- what every deed does to it -/
def Kj (ns : Nat) : Out → Prop
  | .inl _ => True
  | .inr (.inl _) => True
  | .inr (.inr (_, N')) => ∃ ns' np' no', N' 2 = nI ns' ∧ N' 3 = nI np' ∧ N' 4 = nI no' ∧ ns' ≤ 12 ∧ np' ≤ 16 ∧ no' ≤ 8 ∧ ns ≤ ns' ∧ RJ N' ns' np' no'
theorem nI_ne {a b : Nat} (ha : a < 2 ^ 31) (hb : b < 2 ^ 31) (h : ¬ a = b) : ¬ nI a = nI b := fun z => h ((nI_eq ha hb).mp z)
theorem sm_0 {f : Nat → Int32} : ∀ n, (∀ i, i < n → f i = 0) → sm f n = 0
  | 0, _ => rfl
  | n + 1, h => by rw [sm_s, sm_0 n (fun i hi => h i (by omega)), h n (by omega)]; decide
theorem rw1 (a g s n p : Int32) (h : a + s + n = 50 + p) : a - g + (s + g) + n = 50 + p := by
  rw [← h, Int32.sub_eq_add_neg, show a + -g + (s + g) + n = a + s + n + (g + -g) by ac_rfl, Int32.add_right_neg, Int32.add_zero]
theorem rw2 (a x s n p : Int32) (h : a + s + n = 50 + p) : a - x + s + (n + x) = 50 + p := by
  rw [← h, Int32.sub_eq_add_neg, show a + -x + s + (n + x) = a + s + n + (x + -x) by ac_rfl, Int32.add_right_neg, Int32.add_zero]
theorem rw3 (a y s n p : Int32) (h : a + s + n = 50 + p) : a + y + s + n = 50 + (p + y) := by
  rw [show a + y + s + n = a + s + n + y by ac_rfl, h]; ac_rfl
theorem rw4 (b c u n : Int32) (h : b + u = n) : b - c + (u + c) = n := by
  rw [← h, Int32.sub_eq_add_neg, show b + -c + (u + c) = b + u + (c + -c) by ac_rfl, Int32.add_right_neg, Int32.add_zero]
theorem rw5 (b x u n : Int32) (h : b + u = n) : b + x + u = n + x := by rw [← h]; ac_rfl
theorem rw6 (x a s : Int32) : x - a + (s + a) = x + s := by
  rw [Int32.sub_eq_add_neg, show x + -a + (s + a) = x + s + (a + -a) by ac_rfl, Int32.add_right_neg, Int32.add_zero]
theorem kj_bars {N : Nat → Int32} {ns np no : Nat} (R : RI N ns np no) (J : RJ N ns np no) (x : Int32) : Kj ns (pBars N x) := by
  unfold pBars
  by_cases c1 : x < 1 ∨ 50 < x
  · rw [if_pos c1]; trivial
  rw [if_neg c1]
  by_cases c2 : N 0 < x
  · rw [if_pos c2]; trivial
  rw [if_neg c2]
  obtain ⟨⟨a2, a3, a4, b2, b3, b4, AP, AO⟩, -, -, -, -, -, -, sg, su⟩ := R
  obtain ⟨j1, j2, j3, j4, j5, j6, j7⟩ := J
  obtain ⟨M, hM⟩ : ∃ M, M = upd (upd (upd (upd (N) (0) (N 0 - x)) (10) (N 10 + x)) (1) (N 1 + x)) (11) (N 11 + x) := ⟨_, rfl⟩
  have e : ∀ q, M q = if q = 11 then N 11 + x else if q = 1 then N 1 + x else if q = 10 then N 10 + x else if q = 0 then N 0 - x else N q := fun q => by rw [hM]; rfl
  rw [← hM]
  have m0 : M (0) = N 0 - x := by rw [e]; (repeat rw [if_neg (by omega)]); rw [if_pos rfl]
  have m1 : M (1) = N 1 + x := by rw [e]; (repeat rw [if_neg (by omega)]); rw [if_pos rfl]
  have m11 : M (11) = N 11 + x := by rw [e]; (repeat rw [if_neg (by omega)]); rw [if_pos rfl]
  have m8 : M (8) = N (8) := by rw [e]; (repeat rw [if_neg (by omega)])
  refine ⟨ns, np, no, by rw [e]; (repeat rw [if_neg (by omega)]); exact a2, by rw [e]; (repeat rw [if_neg (by omega)]); exact a3, by rw [e]; (repeat rw [if_neg (by omega)]); exact a4, b2, b3, b4, by omega, ?_, ?_, ?_, ?_, ?_, ?_, ?_⟩
  · exact j1.cg (fun i hi => ⟨by rw [e]; (repeat rw [if_neg (by omega)]), by rw [e]; (repeat rw [if_neg (by omega)])⟩) (fun s hs => by rw [e]; (repeat rw [if_neg (by omega)]))
  · exact j2.cg (fun i hi => ⟨by rw [e]; (repeat rw [if_neg (by omega)]), by rw [e]; (repeat rw [if_neg (by omega)])⟩) (fun s hs => ⟨by rw [e]; (repeat rw [if_neg (by omega)]), by rw [e]; (repeat rw [if_neg (by omega)]), by rw [e]; (repeat rw [if_neg (by omega)])⟩)
  · exact j3.cg (fun i hi => ⟨by rw [e]; (repeat rw [if_neg (by omega)]), by rw [e]; (repeat rw [if_neg (by omega)]), by rw [e]; (repeat rw [if_neg (by omega)])⟩)
  · exact j4.cg (fun p hp _ q h1 h2 => by rw [e]; (repeat rw [if_neg (by omega)])) (fun j hj q h1 h2 => by rw [e]; (repeat rw [if_neg (by omega)]))
  · exact j5.cg (fun i hi => ⟨by rw [e]; (repeat rw [if_neg (by omega)]), by rw [e]; (repeat rw [if_neg (by omega)])⟩) (fun s hs => ⟨by rw [e]; (repeat rw [if_neg (by omega)]), by rw [e]; (repeat rw [if_neg (by omega)]), by rw [e]; (repeat rw [if_neg (by omega)])⟩)
  · unfold J6 at *; rw [m0, m11, sm_cg (f := fun i => M (12 + 4 * i)) (g := fun i => N (12 + 4 * i)) (fun i hi => by rw [e]; (repeat rw [if_neg (by omega)])), sm_cg (f := fun i => M (192 + 5 * i)) (g := fun i => N (192 + 5 * i)) (fun i hi => by rw [e]; (repeat rw [if_neg (by omega)]))]; exact rw2 _ _ _ _ _ j6
  · rw [m1, m8, m11]; exact rw5 _ _ _ _ j7
theorem kj_sheet {N : Nat → Int32} {ns np no : Nat} (R : RI N ns np no) (J : RJ N ns np no) (g a : Int32) : Kj ns (pSheet N g a) := by
  unfold pSheet
  by_cases c1 : g < 1 ∨ 9 < g ∨ a < 10 ∨ 60 < a
  · rw [if_pos c1]; trivial
  rw [if_neg c1]
  by_cases c2 : N 2 = 12
  · rw [if_pos c2]; trivial
  rw [if_neg c2]
  by_cases c3 : N 0 < g
  · rw [if_pos c3]; trivial
  rw [if_neg c3]
  obtain ⟨⟨a2, a3, a4, b2, b3, b4, AP, AO⟩, -, -, -, -, -, -, sg, su⟩ := R
  obtain ⟨j1, j2, j3, j4, j5, j6, j7⟩ := J
  rw [a2] at c2
  have hns : ns < 12 := Nat.lt_of_le_of_ne b2 (fun z => c2 (by rw [z]; rfl))
  rw [a2, kOf_nI (by omega)]
  obtain ⟨M, hM⟩ : ∃ M, M = upd (upd (upd (upd (upd (upd (upd (N) (0) (N 0 - g)) (10) (N 10 + g)) (12 + 4 * ns) (g)) (12 + 4 * ns + 1) (a)) (12 + 4 * ns + 2) (0)) (12 + 4 * ns + 3) (a)) (2) (nI ns + 1) := ⟨_, rfl⟩
  have e : ∀ q, M q = if q = 2 then nI ns + 1 else if q = 12 + 4 * ns + 3 then a else if q = 12 + 4 * ns + 2 then 0 else if q = 12 + 4 * ns + 1 then a else if q = 12 + 4 * ns then g else if q = 10 then N 10 + g else if q = 0 then N 0 - g else N q := fun q => by rw [hM]; rfl
  rw [← hM]
  have m0 : M (0) = N 0 - g := by rw [e]; (repeat rw [if_neg (by omega)]); rw [if_pos rfl]
  have m11 : M (11) = N (11) := by rw [e]; (repeat rw [if_neg (by omega)])
  have m12 : M (12 + 4 * ns) = g := by rw [e]; (repeat rw [if_neg (by omega)]); rw [if_pos rfl]
  have m13 : M (13 + 4 * ns) = a := by rw [show 13 + 4 * ns = 12 + 4 * ns + 1 by omega, e]; (repeat rw [if_neg (by omega)]); rw [if_pos rfl]
  have m14 : M (14 + 4 * ns) = 0 := by rw [show 14 + 4 * ns = 12 + 4 * ns + 2 by omega, e]; (repeat rw [if_neg (by omega)]); rw [if_pos rfl]
  have m15 : M (15 + 4 * ns) = a := by rw [show 15 + 4 * ns = 12 + 4 * ns + 3 by omega, e]; (repeat rw [if_neg (by omega)]); rw [if_pos rfl]
  refine ⟨ns + 1, np, no, by rw [e, if_pos rfl]; exact nI_1 ns, by rw [e]; (repeat rw [if_neg (by omega)]); exact a3, by rw [e]; (repeat rw [if_neg (by omega)]); exact a4, by omega, b3, b4, by omega, ?_, ?_, ?_, ?_, ?_, ?_, ?_⟩
  · intro i hi
    obtain ⟨s, h1, h2, h3⟩ := j1 i hi
    refine ⟨s, by omega, ?_, ?_⟩
    · rw [e]; (repeat rw [if_neg (by omega)]); exact h2
    · rw [e, e]; (repeat rw [if_neg (by omega)]); exact h3
  · intro t ht
    by_cases q : t = ns
    · subst q
      have z : ∀ i, i < np → ¬ N (67 + 8 * i) = nI t := fun i hi w => by
        obtain ⟨s, h1, h2, -⟩ := j1 i hi
        rw [h2] at w
        exact nI_ne (by omega) (by omega) (show ¬ s = t by omega) w
      rw [sm_0 (f := usK M t) np (fun i hi => by unfold usK; rw [show M (67 + 8 * i) = N (67 + 8 * i) by rw [e]; (repeat rw [if_neg (by omega)])]; exact if_neg (z i hi)), sm_0 (f := usC M t) np (fun i hi => by unfold usC; rw [show M (67 + 8 * i) = N (67 + 8 * i) by rw [e]; (repeat rw [if_neg (by omega)])]; exact if_neg (z i hi)), m13, m14, m15]
      exact ⟨Int32.add_zero _, rfl⟩
    · exact (j2.cg (M := M) (fun i hi => ⟨by rw [e]; (repeat rw [if_neg (by omega)]), by rw [e]; (repeat rw [if_neg (by omega)])⟩) (fun s hs => ⟨by rw [e]; (repeat rw [if_neg (by omega)]), by rw [e]; (repeat rw [if_neg (by omega)]), by rw [e]; (repeat rw [if_neg (by omega)])⟩)) t (by omega)
  · exact j3.cg (fun i hi => ⟨by rw [e]; (repeat rw [if_neg (by omega)]), by rw [e]; (repeat rw [if_neg (by omega)]), by rw [e]; (repeat rw [if_neg (by omega)])⟩)
  · exact j4.cg (fun p hp _ q h1 h2 => by rw [e]; (repeat rw [if_neg (by omega)])) (fun j hj q h1 h2 => by rw [e]; (repeat rw [if_neg (by omega)]))
  · unfold J5 at *; rw [sm_s, sm_s, m12, m13, m15, sm_cg (f := fun i => M (13 + 4 * i) * M (12 + 4 * i)) (g := fun i => N (13 + 4 * i) * N (12 + 4 * i)) (fun i hi => by rw [e, e]; (repeat rw [if_neg (by omega)])), sm_cg (f := fun i => M (15 + 4 * i) * M (12 + 4 * i)) (g := fun i => N (15 + 4 * i) * N (12 + 4 * i)) (fun i hi => by rw [e, e]; (repeat rw [if_neg (by omega)])), sm_cg (f := fun i => kArea (kOf (M (60 + 8 * i))) * M (61 + 8 * i)) (g := fun i => kArea (kOf (N (60 + 8 * i))) * N (61 + 8 * i)) (fun i hi => by rw [e, e]; (repeat rw [if_neg (by omega)])), ← j5]; ac_rfl
  · unfold J6 at *; rw [sm_s, m12, m0, m11, sm_cg (f := fun i => M (12 + 4 * i)) (g := fun i => N (12 + 4 * i)) (fun i hi => by rw [e]; (repeat rw [if_neg (by omega)])), sm_cg (f := fun i => M (192 + 5 * i)) (g := fun i => N (192 + 5 * i)) (fun i hi => by rw [e]; (repeat rw [if_neg (by omega)]))]; exact rw1 _ _ _ _ _ j6
  · rw [e, e, e]; (repeat rw [if_neg (by omega)]); exact j7
theorem kj_raise {N : Nat → Int32} {ns np no : Nat} (R : RI N ns np no) (J : RJ N ns np no) (s k : Int32) : Kj ns (pRaise N s k) := by
  unfold pRaise
  by_cases c1 : ¬ (0 ≤ s ∧ s < N 2)
  · rw [if_pos c1]; trivial
  rw [if_neg c1]
  by_cases c2 : ¬ (0 ≤ k ∧ k < 3)
  · rw [if_pos c2]; trivial
  rw [if_neg c2]
  by_cases c3 : N 3 = 16
  · rw [if_pos c3]; trivial
  rw [if_neg c3]
  by_cases c4 : N (13 + 4 * kOf s) < kArea (kOf k)
  · rw [if_pos c4]; trivial
  rw [if_neg c4]
  obtain ⟨⟨a2, a3, a4, b2, b3, b4, AP, AO⟩, -, -, -, -, -, -, sg, su⟩ := R
  obtain ⟨j1, j2, j3, j4, j5, j6, j7⟩ := J
  obtain ⟨i0, hi0, rfl⟩ := rg_of (x := s) (n := ns) (by omega) (by rw [← a2]; exact Classical.not_not.mp c1)
  obtain ⟨kk, hkk, rfl⟩ := rg_of (x := k) (n := 3) (by omega) (Classical.not_not.mp c2)
  rw [a3] at c3
  have hnp : np < 16 := Nat.lt_of_le_of_ne b3 (fun z => c3 (by rw [z]; rfl))
  clear c4
  rw [a3, kOf_nI (j := np) (by omega), kOf_nI (j := i0) (by omega), kOf_nI (j := kk) (by omega)]
  obtain ⟨M, hM⟩ : ∃ M, M = upd (upd (upd (upd (upd (upd (upd (upd (upd (upd (upd (N) (13 + 4 * i0) (N (13 + 4 * i0) - kArea kk)) (14 + 4 * i0) (N (14 + 4 * i0) + 1)) (60 + 8 * np) (nI kk)) (61 + 8 * np) (N (12 + 4 * i0))) (62 + 8 * np) (0)) (63 + 8 * np) (0)) (64 + 8 * np) (0)) (65 + 8 * np) (0)) (66 + 8 * np) (-4)) (67 + 8 * np) (nI i0)) (3) (nI np + 1) := ⟨_, rfl⟩
  have e : ∀ q, M q = if q = 3 then nI np + 1 else if q = 67 + 8 * np then nI i0 else if q = 66 + 8 * np then -4 else if q = 65 + 8 * np then 0 else if q = 64 + 8 * np then 0 else if q = 63 + 8 * np then 0 else if q = 62 + 8 * np then 0 else if q = 61 + 8 * np then N (12 + 4 * i0) else if q = 60 + 8 * np then nI kk else if q = 14 + 4 * i0 then N (14 + 4 * i0) + 1 else if q = 13 + 4 * i0 then N (13 + 4 * i0) - kArea kk else N q := fun q => by rw [hM]; rfl
  rw [← hM]
  have m60 : M (60 + 8 * np) = nI kk := by rw [e]; (repeat rw [if_neg (by omega)]); rw [if_pos rfl]
  have m61 : M (61 + 8 * np) = N (12 + 4 * i0) := by rw [e]; (repeat rw [if_neg (by omega)]); rw [if_pos rfl]
  have m63 : M (63 + 8 * np) = 0 := by rw [e]; (repeat rw [if_neg (by omega)]); rw [if_pos rfl]
  have m67 : M (67 + 8 * np) = nI i0 := by rw [e]; (repeat rw [if_neg (by omega)]); rw [if_pos rfl]
  have m13 : M (13 + 4 * i0) = N (13 + 4 * i0) - kArea kk := by rw [e]; (repeat rw [if_neg (by omega)]); rw [if_pos rfl]
  have m14 : M (14 + 4 * i0) = N (14 + 4 * i0) + 1 := by rw [e]; (repeat rw [if_neg (by omega)]); rw [if_pos rfl]
  refine ⟨ns, np + 1, no, by rw [e]; (repeat rw [if_neg (by omega)]); exact a2, by rw [e, if_pos rfl]; exact nI_1 np, by rw [e]; (repeat rw [if_neg (by omega)]); exact a4, b2, by omega, b4, by omega, ?_, ?_, ?_, ?_, ?_, ?_, ?_⟩
  · intro i hi
    by_cases q : i = np
    · subst q
      exact ⟨i0, hi0, m67, by rw [m61, e (12 + 4 * i0)]; (repeat rw [if_neg (by omega)])⟩
    · exact (j1.cg (M := M) (fun i hi => ⟨by rw [e]; (repeat rw [if_neg (by omega)]), by rw [e]; (repeat rw [if_neg (by omega)])⟩) (fun s hs => by rw [e]; (repeat rw [if_neg (by omega)]))) i (by omega)
  · intro t ht
    rw [sm_s, sm_s, sm_cg (f := usK M t) (g := usK N t) (n := np) (fun i hi => by unfold usK; rw [show M (67 + 8 * i) = N (67 + 8 * i) by rw [e]; (repeat rw [if_neg (by omega)]), show M (60 + 8 * i) = N (60 + 8 * i) by rw [e]; (repeat rw [if_neg (by omega)])]), sm_cg (f := usC M t) (g := usC N t) (n := np) (fun i hi => by unfold usC; rw [show M (67 + 8 * i) = N (67 + 8 * i) by rw [e]; (repeat rw [if_neg (by omega)])])]
    obtain ⟨h1, h2⟩ := j2 t ht
    unfold usK usC
    rw [m67, m60, kOf_nI (j := kk) (by omega)]
    by_cases q : t = i0
    · subst q
      rw [if_pos rfl, if_pos rfl, m13, m14, show M (15 + 4 * t) = N (15 + 4 * t) by rw [e]; (repeat rw [if_neg (by omega)])]
      refine ⟨?_, by rw [h2]; rfl⟩
      rw [← h1]
      exact rw6 _ _ _
    · have w := nI_ne (a := i0) (b := t) (by omega) (by omega) (fun z => q z.symm)
      rw [if_neg w, if_neg w, Int32.add_zero, Int32.add_zero, show M (13 + 4 * t) = N (13 + 4 * t) by rw [e]; (repeat rw [if_neg (by omega)]), show M (14 + 4 * t) = N (14 + 4 * t) by rw [e]; (repeat rw [if_neg (by omega)]), show M (15 + 4 * t) = N (15 + 4 * t) by rw [e]; (repeat rw [if_neg (by omega)])]
      exact ⟨h1, h2⟩
  · intro i hi
    by_cases q : i = np
    · subst q; exact Or.inl m63
    · exact (j3.cg (M := M) (fun i hi => ⟨by rw [e]; (repeat rw [if_neg (by omega)]), by rw [e]; (repeat rw [if_neg (by omega)]), by rw [e]; (repeat rw [if_neg (by omega)])⟩)) i (by omega)
  · have j4' : J4 M np no := j4.cg (fun p hp _ q h1 h2 => by rw [e]; (repeat rw [if_neg (by omega)])) (fun j hj q h1 h2 => by rw [e]; (repeat rw [if_neg (by omega)]))
    intro j hj
    rcases j4' j hj with h | ⟨p, h1, h2⟩
    · exact Or.inl h
    · exact Or.inr ⟨p, by omega, h2⟩
  · unfold J5 at *
    rw [sm_s, m60, m61, kOf_nI (j := kk) (by omega), sm_ch (f := fun i => N (13 + 4 * i) * N (12 + 4 * i)) (g := fun i => M (13 + 4 * i) * M (12 + 4 * i)) (i0 := i0) (d := -(kArea kk * N (12 + 4 * i0))) hi0 (by show M (13 + 4 * i0) * M (12 + 4 * i0) = N (13 + 4 * i0) * N (12 + 4 * i0) + -(kArea kk * N (12 + 4 * i0)); rw [m13, show M (12 + 4 * i0) = N (12 + 4 * i0) by rw [e]; (repeat rw [if_neg (by omega)]), Int32.sub_mul, Int32.sub_eq_add_neg]) (fun i hi n => by show M (13 + 4 * i) * M (12 + 4 * i) = N (13 + 4 * i) * N (12 + 4 * i); rw [e, e]; (repeat rw [if_neg (by omega)])), sm_cg (f := fun i => M (15 + 4 * i) * M (12 + 4 * i)) (g := fun i => N (15 + 4 * i) * N (12 + 4 * i)) (fun i hi => by rw [e, e]; (repeat rw [if_neg (by omega)])), sm_cg (f := fun i => kArea (kOf (M (60 + 8 * i))) * M (61 + 8 * i)) (g := fun i => kArea (kOf (N (60 + 8 * i))) * N (61 + 8 * i)) (fun i hi => by rw [e, e]; (repeat rw [if_neg (by omega)])), ← j5]
    rw [← Int32.sub_eq_add_neg]
    exact rw6 _ _ _
  · exact j6.cg (by rw [e]; (repeat rw [if_neg (by omega)])) (by rw [e]; (repeat rw [if_neg (by omega)])) (fun s hs => by rw [e]; (repeat rw [if_neg (by omega)])) (fun j hj => by rw [e]; (repeat rw [if_neg (by omega)]))
  · rw [e, e, e]; (repeat rw [if_neg (by omega)]); exact j7
theorem kj_hit {N : Nat → Int32} {ns np no : Nat} (R : RI N ns np no) (J : RJ N ns np no) (p x : Int32) : Kj ns (pHit N p x) := by
  unfold pHit
  by_cases c1 : ¬ (0 ≤ p ∧ p < N 3)
  · rw [if_pos c1]; trivial
  rw [if_neg c1]
  by_cases c2 : x < 1 ∨ 99 < x
  · rw [if_pos c2]; trivial
  rw [if_neg c2]
  obtain ⟨⟨a2, a3, a4, b2, b3, b4, AP, AO⟩, -, -, -, -, -, -, sg, su⟩ := R
  obtain ⟨j1, j2, j3, j4, j5, j6, j7⟩ := J
  unfold hinK
  by_cases d1 : ¬ soldK (N (66 + 8 * kOf p)) = 0
  · rw [if_pos d1]; trivial
  rw [if_neg d1]
  by_cases d2 : ¬ crackedK (kOf (N (60 + 8 * kOf p))) (N (61 + 8 * kOf p)) (N (62 + 8 * kOf p)) = 0
  · rw [if_pos d2]; trivial
  rw [if_neg d2]
  obtain ⟨i0, hi0, rfl⟩ := rg_of (x := p) (n := np) (by omega) (by rw [← a3]; exact Classical.not_not.mp c1)
  rw [kOf_nI (j := i0) (by omega)] at *
  have k3 := soldK_0 (Classical.not_not.mp d1)
  have nsd : ∀ p', (∃ j, j < no ∧ N (66 + 8 * p') = nI j) → ¬ p' = i0 := fun p' ⟨j, hj, z⟩ w => by
    rw [w, k3] at z
    exact (soldK_nI (n := j) (by omega)).2 z.symm
  obtain ⟨M, hM⟩ : ∃ M, M = upd (upd (N) (62 + 8 * i0) (N (62 + 8 * i0) + x)) (5) (N 5 + x) := ⟨_, rfl⟩
  have e : ∀ q, M q = if q = 5 then N 5 + x else if q = 62 + 8 * i0 then N (62 + 8 * i0) + x else N q := fun q => by rw [hM]; rfl
  rw [← hM]
  obtain ⟨pk, ⟨g, hg, hg1, hg9⟩, ⟨b, hb, hb2⟩, -⟩ := AP i0 hi0
  obtain ⟨xx, hx1, hx9, rfl⟩ : ∃ q, 1 ≤ q ∧ q ≤ 99 ∧ x = nI q := rgx (by omega) (fun z => c2 (Or.inl z)) (fun z => c2 (Or.inr z))
  refine ⟨ns, np, no, by rw [e]; (repeat rw [if_neg (by omega)]); exact a2, by rw [e]; (repeat rw [if_neg (by omega)]); exact a3, by rw [e]; (repeat rw [if_neg (by omega)]); exact a4, b2, b3, b4, by omega, ?_, ?_, ?_, ?_, ?_, ?_, ?_⟩
  · exact j1.cg (fun i hi => ⟨by rw [e]; (repeat rw [if_neg (by omega)]), by rw [e]; (repeat rw [if_neg (by omega)])⟩) (fun s hs => by rw [e]; (repeat rw [if_neg (by omega)]))
  · exact j2.cg (fun i hi => ⟨by rw [e]; (repeat rw [if_neg (by omega)]), by rw [e]; (repeat rw [if_neg (by omega)])⟩) (fun s hs => ⟨by rw [e]; (repeat rw [if_neg (by omega)]), by rw [e]; (repeat rw [if_neg (by omega)]), by rw [e]; (repeat rw [if_neg (by omega)])⟩)
  · intro i hi
    by_cases q : i = i0
    · subst q
      rw [show M (63 + 8 * i) = N (63 + 8 * i) by rw [e]; (repeat rw [if_neg (by omega)]), show M (62 + 8 * i) = N (62 + 8 * i) + nI xx by rw [e]; (repeat rw [if_neg (by omega)]); rw [if_pos rfl], show M (60 + 8 * i) = N (60 + 8 * i) by rw [e]; (repeat rw [if_neg (by omega)])]
      rcases j3 i hi with h | h
      · exact Or.inl h
      · refine Or.inr (fun z => h ?_)
        rw [hb, nI_add] at z
        rw [hb]
        exact Int32.lt_of_le_of_lt (nI_le (show b ≤ b + xx by omega) (by omega)) z
    · have w : M (60 + 8 * i) = N (60 + 8 * i) ∧ M (62 + 8 * i) = N (62 + 8 * i) ∧ M (63 + 8 * i) = N (63 + 8 * i) := ⟨by rw [e]; (repeat rw [if_neg (by omega)]), by rw [e]; (repeat rw [if_neg (by omega)]), by rw [e]; (repeat rw [if_neg (by omega)])⟩
      rw [w.1, w.2.1, w.2.2]; exact j3 i hi
  · exact j4.cg (fun p hp w q h1 h2 => by have := nsd p w; rw [e]; (repeat rw [if_neg (by omega)])) (fun j hj q h1 h2 => by rw [e]; (repeat rw [if_neg (by omega)]))
  · exact j5.cg (fun i hi => ⟨by rw [e]; (repeat rw [if_neg (by omega)]), by rw [e]; (repeat rw [if_neg (by omega)])⟩) (fun s hs => ⟨by rw [e]; (repeat rw [if_neg (by omega)]), by rw [e]; (repeat rw [if_neg (by omega)]), by rw [e]; (repeat rw [if_neg (by omega)])⟩)
  · exact j6.cg (by rw [e]; (repeat rw [if_neg (by omega)])) (by rw [e]; (repeat rw [if_neg (by omega)])) (fun s hs => by rw [e]; (repeat rw [if_neg (by omega)])) (fun j hj => by rw [e]; (repeat rw [if_neg (by omega)]))
  · rw [e, e, e]; (repeat rw [if_neg (by omega)]); exact j7
theorem kj_tin {N : Nat → Int32} {ns np no : Nat} (R : RI N ns np no) (J : RJ N ns np no) (p x : Int32) : Kj ns (pTin N p x) := by
  unfold pTin
  by_cases c1 : ¬ (0 ≤ p ∧ p < N 3)
  · rw [if_pos c1]; trivial
  rw [if_neg c1]
  by_cases c2 : x < 1 ∨ 9 < x
  · rw [if_pos c2]; trivial
  rw [if_neg c2]
  obtain ⟨⟨a2, a3, a4, b2, b3, b4, AP, AO⟩, -, -, -, -, -, -, sg, su⟩ := R
  obtain ⟨j1, j2, j3, j4, j5, j6, j7⟩ := J
  unfold hinK
  by_cases d1 : ¬ soldK (N (66 + 8 * kOf p)) = 0
  · rw [if_pos d1]; trivial
  rw [if_neg d1]
  by_cases d2 : ¬ crackedK (kOf (N (60 + 8 * kOf p))) (N (61 + 8 * kOf p)) (N (62 + 8 * kOf p)) = 0
  · rw [if_pos d2]; trivial
  rw [if_neg d2]
  by_cases g1 : N (62 + 8 * kOf p) < kSm (kOf (N (60 + 8 * kOf p)))
  · rw [if_pos g1]; trivial
  rw [if_neg g1]
  by_cases g2 : 9 < N (63 + 8 * kOf p) + x
  · rw [if_pos g2]; trivial
  rw [if_neg g2]
  by_cases g3 : N 1 < (kArea (kOf (N (60 + 8 * kOf p))) * x + 3) / 4
  · rw [if_pos g3]; trivial
  rw [if_neg g3]
  clear g2 g3
  obtain ⟨i0, hi0, rfl⟩ := rg_of (x := p) (n := np) (by omega) (by rw [← a3]; exact Classical.not_not.mp c1)
  rw [kOf_nI (j := i0) (by omega)] at *
  have k3 := soldK_0 (Classical.not_not.mp d1)
  have nsd : ∀ p', (∃ j, j < no ∧ N (66 + 8 * p') = nI j) → ¬ p' = i0 := fun p' ⟨j, hj, z⟩ w => by
    rw [w, k3] at z
    exact (soldK_nI (n := j) (by omega)).2 z.symm
  obtain ⟨M, hM⟩ : ∃ M, M = upd (upd (upd (upd (N) (63 + 8 * i0) (N (63 + 8 * i0) + x)) (1) (N 1 - (kArea (kOf (N (60 + 8 * i0))) * x + 3) / 4)) (8) (N 8 + (kArea (kOf (N (60 + 8 * i0))) * x + 3) / 4)) (7) (N 7 + x) := ⟨_, rfl⟩
  have e : ∀ q, M q = if q = 7 then N 7 + x else if q = 8 then N 8 + (kArea (kOf (N (60 + 8 * i0))) * x + 3) / 4 else if q = 1 then N 1 - (kArea (kOf (N (60 + 8 * i0))) * x + 3) / 4 else if q = 63 + 8 * i0 then N (63 + 8 * i0) + x else N q := fun q => by rw [hM]; rfl
  rw [← hM]
  have m1 : M (1) = N 1 - (kArea (kOf (N (60 + 8 * i0))) * x + 3) / 4 := by rw [e]; (repeat rw [if_neg (by omega)]); rw [if_pos rfl]
  have m8 : M (8) = N 8 + (kArea (kOf (N (60 + 8 * i0))) * x + 3) / 4 := by rw [e]; (repeat rw [if_neg (by omega)]); rw [if_pos rfl]
  have m11 : M (11) = N (11) := by rw [e]; (repeat rw [if_neg (by omega)])
  refine ⟨ns, np, no, by rw [e]; (repeat rw [if_neg (by omega)]); exact a2, by rw [e]; (repeat rw [if_neg (by omega)]); exact a3, by rw [e]; (repeat rw [if_neg (by omega)]); exact a4, b2, b3, b4, by omega, ?_, ?_, ?_, ?_, ?_, ?_, ?_⟩
  · exact j1.cg (fun i hi => ⟨by rw [e]; (repeat rw [if_neg (by omega)]), by rw [e]; (repeat rw [if_neg (by omega)])⟩) (fun s hs => by rw [e]; (repeat rw [if_neg (by omega)]))
  · exact j2.cg (fun i hi => ⟨by rw [e]; (repeat rw [if_neg (by omega)]), by rw [e]; (repeat rw [if_neg (by omega)])⟩) (fun s hs => ⟨by rw [e]; (repeat rw [if_neg (by omega)]), by rw [e]; (repeat rw [if_neg (by omega)]), by rw [e]; (repeat rw [if_neg (by omega)])⟩)
  · intro i hi
    by_cases q : i = i0
    · subst q
      rw [show M (62 + 8 * i) = N (62 + 8 * i) by rw [e]; (repeat rw [if_neg (by omega)]), show M (60 + 8 * i) = N (60 + 8 * i) by rw [e]; (repeat rw [if_neg (by omega)])]
      exact Or.inr g1
    · have w : M (60 + 8 * i) = N (60 + 8 * i) ∧ M (62 + 8 * i) = N (62 + 8 * i) ∧ M (63 + 8 * i) = N (63 + 8 * i) := ⟨by rw [e]; (repeat rw [if_neg (by omega)]), by rw [e]; (repeat rw [if_neg (by omega)]), by rw [e]; (repeat rw [if_neg (by omega)])⟩
      rw [w.1, w.2.1, w.2.2]; exact j3 i hi
  · exact j4.cg (fun p hp w q h1 h2 => by have := nsd p w; rw [e]; (repeat rw [if_neg (by omega)])) (fun j hj q h1 h2 => by rw [e]; (repeat rw [if_neg (by omega)]))
  · exact j5.cg (fun i hi => ⟨by rw [e]; (repeat rw [if_neg (by omega)]), by rw [e]; (repeat rw [if_neg (by omega)])⟩) (fun s hs => ⟨by rw [e]; (repeat rw [if_neg (by omega)]), by rw [e]; (repeat rw [if_neg (by omega)]), by rw [e]; (repeat rw [if_neg (by omega)])⟩)
  · exact j6.cg (by rw [e]; (repeat rw [if_neg (by omega)])) (by rw [e]; (repeat rw [if_neg (by omega)])) (fun s hs => by rw [e]; (repeat rw [if_neg (by omega)])) (fun j hj => by rw [e]; (repeat rw [if_neg (by omega)]))
  · rw [m1, m8, m11]; exact rw4 _ _ _ _ j7
theorem kj_cook {N : Nat → Int32} {ns np no : Nat} (R : RI N ns np no) (J : RJ N ns np no) (p x : Int32) : Kj ns (pCook N p x) := by
  unfold pCook
  by_cases c1 : ¬ (0 ≤ p ∧ p < N 3)
  · rw [if_pos c1]; trivial
  rw [if_neg c1]
  by_cases c2 : x < 1 ∨ 99 < x
  · rw [if_pos c2]; trivial
  rw [if_neg c2]
  obtain ⟨⟨a2, a3, a4, b2, b3, b4, AP, AO⟩, -, -, -, -, -, -, sg, su⟩ := R
  obtain ⟨j1, j2, j3, j4, j5, j6, j7⟩ := J
  unfold hinK
  by_cases d1 : ¬ soldK (N (66 + 8 * kOf p)) = 0
  · rw [if_pos d1]; trivial
  rw [if_neg d1]
  by_cases d2 : ¬ crackedK (kOf (N (60 + 8 * kOf p))) (N (61 + 8 * kOf p)) (N (62 + 8 * kOf p)) = 0
  · rw [if_pos d2]; trivial
  rw [if_neg d2]
  by_cases g1 : N (63 + 8 * kOf p) = 0
  · rw [if_pos g1]; trivial
  rw [if_neg g1]
  obtain ⟨i0, hi0, rfl⟩ := rg_of (x := p) (n := np) (by omega) (by rw [← a3]; exact Classical.not_not.mp c1)
  rw [kOf_nI (j := i0) (by omega)] at *
  have k3 := soldK_0 (Classical.not_not.mp d1)
  have nsd : ∀ p', (∃ j, j < no ∧ N (66 + 8 * p') = nI j) → ¬ p' = i0 := fun p' ⟨j, hj, z⟩ w => by
    rw [w, k3] at z
    exact (soldK_nI (n := j) (by omega)).2 z.symm
  obtain ⟨M, hM⟩ : ∃ M, M = upd (upd (upd (upd (N) (63 + 8 * i0) (nI (kOf (N (63 + 8 * i0)) - wornK (kOf (N (60 + 8 * i0))) (N (63 + 8 * i0)) (N (65 + 8 * i0)) x))) (65 + 8 * i0) (if kOf (N (63 + 8 * i0)) - wornK (kOf (N (60 + 8 * i0))) (N (63 + 8 * i0)) (N (65 + 8 * i0)) x = 0 then 0 else nI (kOf (N (65 + 8 * i0)) + kOf x - wornK (kOf (N (60 + 8 * i0))) (N (63 + 8 * i0)) (N (65 + 8 * i0)) x * kMealN (kOf (N (60 + 8 * i0)))))) (64 + 8 * i0) (N (64 + 8 * i0) + x)) (6) (N 6 + x) := ⟨_, rfl⟩
  have e : ∀ q, M q = if q = 6 then N 6 + x else if q = 64 + 8 * i0 then N (64 + 8 * i0) + x else if q = 65 + 8 * i0 then if kOf (N (63 + 8 * i0)) - wornK (kOf (N (60 + 8 * i0))) (N (63 + 8 * i0)) (N (65 + 8 * i0)) x = 0 then 0 else nI (kOf (N (65 + 8 * i0)) + kOf x - wornK (kOf (N (60 + 8 * i0))) (N (63 + 8 * i0)) (N (65 + 8 * i0)) x * kMealN (kOf (N (60 + 8 * i0)))) else if q = 63 + 8 * i0 then nI (kOf (N (63 + 8 * i0)) - wornK (kOf (N (60 + 8 * i0))) (N (63 + 8 * i0)) (N (65 + 8 * i0)) x) else N q := fun q => by rw [hM]; rfl
  rw [← hM]
  refine ⟨ns, np, no, by rw [e]; (repeat rw [if_neg (by omega)]); exact a2, by rw [e]; (repeat rw [if_neg (by omega)]); exact a3, by rw [e]; (repeat rw [if_neg (by omega)]); exact a4, b2, b3, b4, by omega, ?_, ?_, ?_, ?_, ?_, ?_, ?_⟩
  · exact j1.cg (fun i hi => ⟨by rw [e]; (repeat rw [if_neg (by omega)]), by rw [e]; (repeat rw [if_neg (by omega)])⟩) (fun s hs => by rw [e]; (repeat rw [if_neg (by omega)]))
  · exact j2.cg (fun i hi => ⟨by rw [e]; (repeat rw [if_neg (by omega)]), by rw [e]; (repeat rw [if_neg (by omega)])⟩) (fun s hs => ⟨by rw [e]; (repeat rw [if_neg (by omega)]), by rw [e]; (repeat rw [if_neg (by omega)]), by rw [e]; (repeat rw [if_neg (by omega)])⟩)
  · intro i hi
    by_cases q : i = i0
    · subst q
      rw [show M (62 + 8 * i) = N (62 + 8 * i) by rw [e]; (repeat rw [if_neg (by omega)]), show M (60 + 8 * i) = N (60 + 8 * i) by rw [e]; (repeat rw [if_neg (by omega)])]
      exact Or.inr ((j3 i hi).resolve_left g1)
    · have w : M (60 + 8 * i) = N (60 + 8 * i) ∧ M (62 + 8 * i) = N (62 + 8 * i) ∧ M (63 + 8 * i) = N (63 + 8 * i) := ⟨by rw [e]; (repeat rw [if_neg (by omega)]), by rw [e]; (repeat rw [if_neg (by omega)]), by rw [e]; (repeat rw [if_neg (by omega)])⟩
      rw [w.1, w.2.1, w.2.2]; exact j3 i hi
  · exact j4.cg (fun p hp w q h1 h2 => by have := nsd p w; rw [e]; (repeat rw [if_neg (by omega)])) (fun j hj q h1 h2 => by rw [e]; (repeat rw [if_neg (by omega)]))
  · exact j5.cg (fun i hi => ⟨by rw [e]; (repeat rw [if_neg (by omega)]), by rw [e]; (repeat rw [if_neg (by omega)])⟩) (fun s hs => ⟨by rw [e]; (repeat rw [if_neg (by omega)]), by rw [e]; (repeat rw [if_neg (by omega)]), by rw [e]; (repeat rw [if_neg (by omega)])⟩)
  · exact j6.cg (by rw [e]; (repeat rw [if_neg (by omega)])) (by rw [e]; (repeat rw [if_neg (by omega)])) (fun s hs => by rw [e]; (repeat rw [if_neg (by omega)])) (fun j hj => by rw [e]; (repeat rw [if_neg (by omega)]))
  · rw [e, e, e]; (repeat rw [if_neg (by omega)]); exact j7
theorem kj_baker {N : Nat → Int32} {ns np no : Nat} (R : RI N ns np no) (J : RJ N ns np no) (k t p : Int32) : Kj ns (pBaker N k t p) := by
  unfold pBaker
  by_cases c1 : ¬ (0 ≤ k ∧ k < 3) ∨ t < 1 ∨ 9 < t ∨ p < 1 ∨ 99 < p
  · rw [if_pos c1]; trivial
  rw [if_neg c1]
  by_cases c2 : N 4 = 8
  · rw [if_pos c2]; trivial
  rw [if_neg c2]
  obtain ⟨⟨a2, a3, a4, b2, b3, b4, AP, AO⟩, -, -, -, -, -, -, sg, su⟩ := R
  obtain ⟨j1, j2, j3, j4, j5, j6, j7⟩ := J
  rw [a4] at c2
  have hno : no < 8 := Nat.lt_of_le_of_ne b4 (fun z => c2 (by rw [z]; rfl))
  rw [a4, kOf_nI (by omega)]
  obtain ⟨M, hM⟩ : ∃ M, M = upd (upd (upd (upd (upd (upd (N) (188 + 5 * no) (k)) (189 + 5 * no) (t)) (190 + 5 * no) (p)) (191 + 5 * no) (-4)) (192 + 5 * no) (0)) (4) (nI no + 1) := ⟨_, rfl⟩
  have e : ∀ q, M q = if q = 4 then nI no + 1 else if q = 192 + 5 * no then 0 else if q = 191 + 5 * no then -4 else if q = 190 + 5 * no then p else if q = 189 + 5 * no then t else if q = 188 + 5 * no then k else N q := fun q => by rw [hM]; rfl
  rw [← hM]
  have m0 : M (0) = N (0) := by rw [e]; (repeat rw [if_neg (by omega)])
  have m11 : M (11) = N (11) := by rw [e]; (repeat rw [if_neg (by omega)])
  have m192 : M (192 + 5 * no) = 0 := by rw [e]; (repeat rw [if_neg (by omega)]); rw [if_pos rfl]
  refine ⟨ns, np, no + 1, by rw [e]; (repeat rw [if_neg (by omega)]); exact a2, by rw [e]; (repeat rw [if_neg (by omega)]); exact a3, by rw [e, if_pos rfl]; exact nI_1 no, b2, b3, by omega, by omega, ?_, ?_, ?_, ?_, ?_, ?_, ?_⟩
  · exact j1.cg (fun i hi => ⟨by rw [e]; (repeat rw [if_neg (by omega)]), by rw [e]; (repeat rw [if_neg (by omega)])⟩) (fun s hs => by rw [e]; (repeat rw [if_neg (by omega)]))
  · exact j2.cg (fun i hi => ⟨by rw [e]; (repeat rw [if_neg (by omega)]), by rw [e]; (repeat rw [if_neg (by omega)])⟩) (fun s hs => ⟨by rw [e]; (repeat rw [if_neg (by omega)]), by rw [e]; (repeat rw [if_neg (by omega)]), by rw [e]; (repeat rw [if_neg (by omega)])⟩)
  · exact j3.cg (fun i hi => ⟨by rw [e]; (repeat rw [if_neg (by omega)]), by rw [e]; (repeat rw [if_neg (by omega)]), by rw [e]; (repeat rw [if_neg (by omega)])⟩)
  · intro j hj
    by_cases q : j = no
    · subst q; exact Or.inl (by rw [e]; (repeat rw [if_neg (by omega)]); rw [if_pos rfl])
    · exact (j4.cg (M := M) (fun p hp _ q h1 h2 => by rw [e]; (repeat rw [if_neg (by omega)])) (fun j hj q h1 h2 => by rw [e]; (repeat rw [if_neg (by omega)]))) j (by omega)
  · exact j5.cg (fun i hi => ⟨by rw [e]; (repeat rw [if_neg (by omega)]), by rw [e]; (repeat rw [if_neg (by omega)])⟩) (fun s hs => ⟨by rw [e]; (repeat rw [if_neg (by omega)]), by rw [e]; (repeat rw [if_neg (by omega)]), by rw [e]; (repeat rw [if_neg (by omega)])⟩)
  · unfold J6 at *; rw [sm_s, m0, m11, m192, sm_cg (f := fun i => M (12 + 4 * i)) (g := fun i => N (12 + 4 * i)) (fun i hi => by rw [e]; (repeat rw [if_neg (by omega)])), sm_cg (f := fun i => M (192 + 5 * i)) (g := fun i => N (192 + 5 * i)) (fun i hi => by rw [e]; (repeat rw [if_neg (by omega)])), Int32.add_zero]; exact j6
  · rw [e, e, e]; (repeat rw [if_neg (by omega)]); exact j7
theorem kj_sell {N : Nat → Int32} {ns np no : Nat} (R : RI N ns np no) (J : RJ N ns np no) (p o : Int32) : Kj ns (pSell N p o) := by
  unfold pSell
  by_cases c1 : ¬ ((0 ≤ p ∧ p < N 3) ∧ (0 ≤ o ∧ o < N 4))
  · rw [if_pos c1]; trivial
  rw [if_neg c1]
  by_cases c2 : ¬ soldK (N (191 + 5 * kOf o)) = 0
  · rw [if_pos c2]; trivial
  rw [if_neg c2]
  by_cases c3 : ¬ soldK (N (66 + 8 * kOf p)) = 0
  · rw [if_pos c3]; trivial
  rw [if_neg c3]
  by_cases c4 : ¬ lackN N (kOf p) (kOf o) = 0
  · rw [if_pos c4]; trivial
  rw [if_neg c4]
  obtain ⟨⟨a2, a3, a4, b2, b3, b4, AP, AO⟩, -, -, -, -, -, -, sg, su⟩ := R
  obtain ⟨j1, j2, j3, j4, j5, j6, j7⟩ := J
  have c1b := Classical.not_not.mp c1
  obtain ⟨i0, hi0, rfl⟩ := rg_of (x := p) (n := np) (by omega) (by rw [← a3]; exact c1b.1)
  obtain ⟨j0, hj0, rfl⟩ := rg_of (x := o) (n := no) (by omega) (by rw [← a4]; exact c1b.2)
  clear c1 c1b
  rw [kOf_nI (j := j0) (by omega)] at c2
  rw [kOf_nI (j := i0) (by omega)] at c3
  rw [kOf_nI (j := i0) (by omega), kOf_nI (j := j0) (by omega)] at c4
  rw [kOf_nI (j := i0) (by omega), kOf_nI (j := j0) (by omega)]
  have k2 := soldK_0 (Classical.not_not.mp c2)
  have k3 := soldK_0 (Classical.not_not.mp c3)
  have k4 := Classical.not_not.mp c4
  have nsd : ∀ p', (∃ j, j < no ∧ N (66 + 8 * p') = nI j) → ¬ p' = i0 := fun p' ⟨j, hj, z⟩ w => by
    rw [w, k3] at z
    exact (soldK_nI (n := j) (by omega)).2 z.symm
  obtain ⟨M, hM⟩ : ∃ M, M = upd (upd (upd (upd (upd (N) (66 + 8 * i0) (nI j0)) (191 + 5 * j0) (nI i0)) (192 + 5 * j0) (payK (N (64 + 8 * i0)) (N (190 + 5 * j0)))) (0) (N 0 + payK (N (64 + 8 * i0)) (N (190 + 5 * j0)))) (9) (N 9 + payK (N (64 + 8 * i0)) (N (190 + 5 * j0))) := ⟨_, rfl⟩
  have e : ∀ q, M q = if q = 9 then N 9 + payK (N (64 + 8 * i0)) (N (190 + 5 * j0)) else if q = 0 then N 0 + payK (N (64 + 8 * i0)) (N (190 + 5 * j0)) else if q = 192 + 5 * j0 then payK (N (64 + 8 * i0)) (N (190 + 5 * j0)) else if q = 191 + 5 * j0 then nI i0 else if q = 66 + 8 * i0 then nI j0 else N q := fun q => by rw [hM]; rfl
  rw [← hM]
  have m0 : M (0) = N 0 + payK (N (64 + 8 * i0)) (N (190 + 5 * j0)) := by rw [e]; (repeat rw [if_neg (by omega)]); rw [if_pos rfl]
  have m11 : M (11) = N (11) := by rw [e]; (repeat rw [if_neg (by omega)])
  have m192 : M (192 + 5 * j0) = payK (N (64 + 8 * i0)) (N (190 + 5 * j0)) := by rw [e]; (repeat rw [if_neg (by omega)]); rw [if_pos rfl]
  have m64 : M (64 + 8 * i0) = N (64 + 8 * i0) := by rw [e]; (repeat rw [if_neg (by omega)])
  have m190 : M (190 + 5 * j0) = N (190 + 5 * j0) := by rw [e]; (repeat rw [if_neg (by omega)])
  refine ⟨ns, np, no, by rw [e]; (repeat rw [if_neg (by omega)]); exact a2, by rw [e]; (repeat rw [if_neg (by omega)]); exact a3, by rw [e]; (repeat rw [if_neg (by omega)]); exact a4, b2, b3, b4, by omega, ?_, ?_, ?_, ?_, ?_, ?_, ?_⟩
  · exact j1.cg (fun i hi => ⟨by rw [e]; (repeat rw [if_neg (by omega)]), by rw [e]; (repeat rw [if_neg (by omega)])⟩) (fun s hs => by rw [e]; (repeat rw [if_neg (by omega)]))
  · exact j2.cg (fun i hi => ⟨by rw [e]; (repeat rw [if_neg (by omega)]), by rw [e]; (repeat rw [if_neg (by omega)])⟩) (fun s hs => ⟨by rw [e]; (repeat rw [if_neg (by omega)]), by rw [e]; (repeat rw [if_neg (by omega)]), by rw [e]; (repeat rw [if_neg (by omega)])⟩)
  · exact j3.cg (fun i hi => ⟨by rw [e]; (repeat rw [if_neg (by omega)]), by rw [e]; (repeat rw [if_neg (by omega)]), by rw [e]; (repeat rw [if_neg (by omega)])⟩)
  · intro j hj
    by_cases q : j = j0
    · subst q
      refine Or.inr ⟨i0, hi0, by rw [e]; (repeat rw [if_neg (by omega)]); rw [if_pos rfl], by rw [e]; (repeat rw [if_neg (by omega)]); rw [if_pos rfl], ?_, ?_, ?_⟩
      · rw [e, e]; (repeat rw [if_neg (by omega)])
        have kk : kOf (N (60 + 8 * i0)) = kOf (N (188 + 5 * j)) := Classical.byContradiction fun z => by
          unfold lackN lackK at k4
          rw [if_pos z] at k4
          exact absurd k4 (by decide)
        rw [(AP i0 hi0).1.1, (AO j hj).1.1, kk]
      · unfold lackN at *
        rw [e, e, e, e, e, e, e]; (repeat rw [if_neg (by omega)]); exact k4
      · rw [m192, m64, m190]
    · rw [show M (191 + 5 * j) = N (191 + 5 * j) by rw [e]; (repeat rw [if_neg (by omega)])]
      rcases j4 j hj with h | ⟨p, h1, h2, h3, F⟩
      · exact Or.inl h
      · have np0 := nsd p ⟨j, hj, h3⟩
        exact Or.inr ⟨p, h1, h2, by rw [e]; (repeat rw [if_neg (by omega)]); exact h3, F.cg (fun q h1 h2 => by rw [e]; (repeat rw [if_neg (by omega)])) (fun q h1 h2 => by rw [e]; (repeat rw [if_neg (by omega)]))⟩
  · exact j5.cg (fun i hi => ⟨by rw [e]; (repeat rw [if_neg (by omega)]), by rw [e]; (repeat rw [if_neg (by omega)])⟩) (fun s hs => ⟨by rw [e]; (repeat rw [if_neg (by omega)]), by rw [e]; (repeat rw [if_neg (by omega)]), by rw [e]; (repeat rw [if_neg (by omega)])⟩)
  · unfold J6 at *
    rw [m0, m11, sm_cg (f := fun i => M (12 + 4 * i)) (g := fun i => N (12 + 4 * i)) (fun i hi => by rw [e]; (repeat rw [if_neg (by omega)])), sm_ch (f := fun j => N (192 + 5 * j)) (g := fun j => M (192 + 5 * j)) (i0 := j0) (d := payK (N (64 + 8 * i0)) (N (190 + 5 * j0))) hj0 (show M (192 + 5 * j0) = N (192 + 5 * j0) + payK (N (64 + 8 * i0)) (N (190 + 5 * j0)) by rw [su j0 hj0 k2, e]; (repeat rw [if_neg (by omega)]); rw [if_pos rfl, Int32.zero_add]) (fun i hi n => by show M (192 + 5 * i) = N (192 + 5 * i); rw [e]; (repeat rw [if_neg (by omega)]))]
    exact rw3 _ _ _ _ _ j6
  · rw [e, e, e]; (repeat rw [if_neg (by omega)]); exact j7
theorem RJ_cl (N : Nat → Int32) : RJ (clN N) 0 0 0 := by
  refine ⟨fun i hi => absurd hi (Nat.not_lt_zero i), fun i hi => absurd hi (Nat.not_lt_zero i), fun i hi => absurd hi (Nat.not_lt_zero i), fun i hi => absurd hi (Nat.not_lt_zero i), rfl, ?_, ?_⟩
  · unfold J6
    rw [clN_e N 0 (by omega), clN_e N 11 (by omega)]; rfl
  · rw [clN_e N 1 (by omega), clN_e N 8 (by omega), clN_e N 11 (by omega)]; rfl
