/-! ===== a shop as its constructor leaves it: its places have names nm ===== -/
def Us (i j k x : Nat) : Prop := (1 ≤ x ∧ x < 5) ∨ (10 ≤ x ∧ x < 10 + i) ∨ (30 ≤ x ∧ x < 30 + j) ∨ (50 ≤ x ∧ x < 50 + k)
def upN (nm : Nat → Nat) (j q : Nat) : Nat → Nat := fun x => if x = j then q else nm x
theorem upN_s (nm : Nat → Nat) (j q : Nat) : upN nm j q j = q := if_pos rfl
theorem upN_n {nm : Nat → Nat} {j q x : Nat} (h : x ≠ j) : upN nm j q x = nm x := if_neg h
/-- what stands in a shop with i sheets, j pots and k orders made -/
def ShB (G : Gl) (a : Nat) (h : Hp) (nm : Nat → Nat) (i j k : Nat) : Prop :=
  h a = some (.inr (8, [.ref (nm 1), .ref (nm 2), .ref (nm 3), .ref (nm 4), .int 0, .int 0, .int 0, .int 30, .int 20, .int 0, .int 0, .int 0])) ∧
  (∃ f, h (nm 1) = some (eR G 3 12 f) ∧ ∀ q, q < i → f q = some (nm (10 + q))) ∧ (∃ f, h (nm 2) = some (eR G 4 16 f) ∧ ∀ q, q < j → f q = some (nm (30 + q))) ∧ (∃ f, h (nm 3) = some (eR G 5 8 f) ∧ ∀ q, q < k → f q = some (nm (50 + q))) ∧
  h (nm 4) = some (eI G 8 (fun _ => 0)) ∧ (∀ q, q < i → h (nm (10 + q)) = some (eSheet 0 0 0 0)) ∧ (∀ q, q < j → h (nm (30 + q)) = some (ePot G (nI q) 0 0 0 0 0 0 0 (-4))) ∧ ∀ q, q < k → h (nm (50 + q)) = some (eOrd G 0 0 0 (-4) 0)
/-- its names are new and apart -/
def ShF (G : Gl) (h0 : Hp) (a : Nat) (h : Hp) (nm : Nat → Nat) (i j k : Nat) : Prop := (∀ x y, Us i j k x → Us i j k y → nm x = nm y → x = y) ∧ (∀ x, Us i j k x → h0 (nm x) = none ∧ G.2.2.1 (nm x)) ∧ Fr (fun x => x = a) h0 h ∧ h0 a ≠ none
def ShI (G : Gl) (h0 : Hp) (a : Nat) (h : Hp) (nm : Nat → Nat) (i j k : Nat) : Prop := ShB G a h nm i j k ∧ ShF G h0 a h nm i j k
section SHI
variable {G : Gl} {h0 h : Hp} {a q : Nat} {nm : Nat → Nat} {i j k : Nat}
theorem ShB.dom (S : ShB G a h nm i j k) : ∀ x, Us i j k x → h (nm x) ≠ none := by
  obtain ⟨c0, ⟨f1, c1, -⟩, ⟨f2, c2, -⟩, ⟨f3, c3, -⟩, c4, c5, c6, c7⟩ := S
  intro x hx
  rcases hx with ⟨h1, h2⟩ | ⟨h1, h2⟩ | ⟨h1, h2⟩ | ⟨h1, h2⟩
  · rcases (show x = 1 ∨ x = 2 ∨ x = 3 ∨ x = 4 by omega) with rfl | rfl | rfl | rfl
    · rw [c1]; simp
    · rw [c2]; simp
    · rw [c3]; simp
    · rw [c4]; simp
  · have := c5 (x - 10) (by omega); rw [show 10 + (x - 10) = x by omega] at this; rw [this]; simp
  · have := c6 (x - 30) (by omega); rw [show 30 + (x - 30) = x by omega] at this; rw [this]; simp
  · have := c7 (x - 50) (by omega); rw [show 50 + (x - 50) = x by omega] at this; rw [this]; simp
theorem ShI.mono (S : ShI G h0 a h nm i j k) : ∀ x, h0 x ≠ none → h x ≠ none := by
  intro x hx
  by_cases e : x = a
  · rw [e, S.1.1]; simp
  · cases hh : h0 x with
    | none => exact absurd hh hx
    | some y => rw [S.2.2.2.1 x y hh e]; simp
theorem ShI.na (S : ShI G h0 a h nm i j k) {x : Nat} (hx : Us i j k x) : nm x ≠ a := fun e => S.2.2.2.2 (e ▸ (S.2.2.1 x hx).1)
/-- a heap that holds all that h does, but for new things and P -/
theorem ShB.fr {h' : Hp} {P : Nat → Prop} (S : ShB G a h nm i j k) (F : Fr P h h') (ha : ¬ P a) (hn : ∀ x, Us i j k x → ¬ P (nm x)) : ShB G a h' nm i j k := by
  obtain ⟨c0, ⟨f1, c1, d1⟩, ⟨f2, c2, d2⟩, ⟨f3, c3, d3⟩, c4, c5, c6, c7⟩ := S
  refine ⟨F _ _ c0 ha, ⟨f1, F _ _ c1 (hn 1 (Or.inl (by omega))), d1⟩, ⟨f2, F _ _ c2 (hn 2 (Or.inl (by omega))), d2⟩, ⟨f3, F _ _ c3 (hn 3 (Or.inl (by omega))), d3⟩, F _ _ c4 (hn 4 (Or.inl (by omega))), fun q hq => F _ _ (c5 q hq) (hn _ (Or.inr (Or.inl (by omega)))), fun q hq => F _ _ (c6 q hq) (hn _ (Or.inr (Or.inr (Or.inl (by omega))))), fun q hq => F _ _ (c7 q hq) (hn _ (Or.inr (Or.inr (Or.inr (by omega)))))⟩
theorem Us.lt {x : Nat} (hi : i ≤ 12) (hj : j ≤ 16) (hk : k ≤ 8) (h : Us i j k x) : x < 60 := by unfold Us at h; omega
theorem upd_f {f : Nat → Option Nat} {nm : Nat → Nat} {B i q : Nat} (h : ∀ x, x < i → f x = some (nm (B + x))) : ∀ x, x < i + 1 → va_up f i (some q) x = some (upN nm (B + i) q (B + x)) := by
  intro x hx
  by_cases e : x = i
  · subst e; rw [va_up_self, upN_s]
  · rw [va_up_ne _ _ e, upN_n (by omega), h x (by omega)]
theorem ShI.sheet (S : ShI G h0 a h nm i j k) (hi : i < 12) (hj : j ≤ 16) (hk : k ≤ 8) (zq : h q = none) (gq : G.2.2.1 q) {f : Nat → Option Nat} (hf : h (nm 1) = some (eR G 3 12 f)) : ShI G h0 a (hset (hset h q (eSheet 0 0 0 0)) (nm 1) (eR G 3 12 (va_up f i (some q)))) (upN nm (10 + i) q) (i + 1) j k := by
  have nq : ∀ x, Us i j k x → nm x ≠ q := fun x hx e => S.1.dom x hx (e ▸ zq)
  have naq : a ≠ q := fun e => by have := S.1.1; rw [e, zq] at this; cases this
  have na1 : a ≠ nm 1 := fun e => S.na (x := 1) (Or.inl (by omega)) e.symm
  have nx : ∀ x, Us i j k x → x ≠ 10 + i := fun x hx e => by unfold Us at hx; omega
  have ne : ∀ x, Us i j k x → x ≠ 1 → nm x ≠ nm 1 := fun x hx n e => n (S.2.1 x 1 hx (Or.inl (by omega)) e)
  obtain ⟨⟨c0, ⟨f1, c1, d1⟩, ⟨f2, c2, d2⟩, ⟨f3, c3, d3⟩, c4, c5, c6, c7⟩, g1, g2, g3, g4⟩ := id S
  have ef : f1 = f := by have := c1.symm.trans hf; simpa using this
  subst ef
  have gt : ∀ x, Us i j k x → x ≠ 1 → ∀ y, h (nm x) = some y → hset (hset h q (eSheet 0 0 0 0)) (nm 1) (eR G 3 12 (va_up f1 i (some q))) (upN nm (10 + i) q x) = some y := fun x hx n y hy => by
    rw [upN_n (nx x hx), hset_n (ne x hx n), hset_n (nq x hx)]; exact hy
  have u1 : upN nm (10 + i) q 1 = nm 1 := upN_n (by omega)
  have u2 : upN nm (10 + i) q 2 = nm 2 := upN_n (by omega)
  have u3 : upN nm (10 + i) q 3 = nm 3 := upN_n (by omega)
  have u4 : upN nm (10 + i) q 4 = nm 4 := upN_n (by omega)
  refine ⟨⟨?_, ⟨_, by rw [u1]; exact hset_s, upd_f d1⟩, ⟨f2, gt 2 (Or.inl (by omega)) (by omega) _ c2, fun x hx => by rw [upN_n (by omega)]; exact d2 x hx⟩, ⟨f3, gt 3 (Or.inl (by omega)) (by omega) _ c3, fun x hx => by rw [upN_n (by omega)]; exact d3 x hx⟩, gt 4 (Or.inl (by omega)) (by omega) _ c4, fun x hx => ?_, fun x hx => gt _ (Or.inr (Or.inr (Or.inl (by omega)))) (by omega) _ (c6 x hx), fun x hx => gt _ (Or.inr (Or.inr (Or.inr (by omega)))) (by omega) _ (c7 x hx)⟩, ?_, ?_, ?_, g4⟩
  · rw [hset_n na1, hset_n naq, u1, u2, u3, u4]; exact c0
  · by_cases e : x = i
    · subst e
      rw [upN_s, hset_n (fun e => nq 1 (Or.inl (by omega)) e.symm), hset_s]
    · exact gt _ (Or.inr (Or.inl (by omega))) (by omega) _ (c5 x (by omega))
  · intro x y hx hy e
    by_cases ex : x = 10 + i
    · by_cases ey : y = 10 + i
      · rw [ex, ey]
      · rw [ex, upN_s, upN_n ey] at e
        exact absurd e.symm (nq y (by unfold Us at *; omega))
    · by_cases ey : y = 10 + i
      · rw [ey, upN_s, upN_n ex] at e
        exact absurd e (nq x (by unfold Us at *; omega))
      · rw [upN_n ex, upN_n ey] at e
        exact g1 x y (by unfold Us at *; omega) (by unfold Us at *; omega) e
  · intro x hx
    by_cases ex : x = 10 + i
    · rw [ex, upN_s]
      refine ⟨?_, gq⟩
      cases hq : h0 q with
      | none => rfl
      | some y => exact absurd zq (S.mono q (by rw [hq]; simp))
    · rw [upN_n ex]
      exact g2 x (by unfold Us at *; omega)
  · intro x y hx nP
    have h1 := g3 x y hx nP
    have n1 : x ≠ q := fun e => by rw [e, zq] at h1; cases h1
    have n2 : x ≠ nm 1 := fun e => by rw [e, (g2 1 (Or.inl (by omega))).1] at hx; cases hx
    rw [hset_n n2, hset_n n1]; exact h1
theorem ShI.pot (S : ShI G h0 a h nm i j k) (hi : i ≤ 12) (hj : j < 16) (hk : k ≤ 8) (zq : h q = none) (gq : G.2.2.1 q) {f : Nat → Option Nat} (hf : h (nm 2) = some (eR G 4 16 f)) : ShI G h0 a (hset (hset h q (ePot G (nI j) 0 0 0 0 0 0 0 (-4))) (nm 2) (eR G 4 16 (va_up f j (some q)))) (upN nm (30 + j) q) i (j + 1) k := by
  have nq : ∀ x, Us i j k x → nm x ≠ q := fun x hx e => S.1.dom x hx (e ▸ zq)
  have naq : a ≠ q := fun e => by have := S.1.1; rw [e, zq] at this; cases this
  have na1 : a ≠ nm 2 := fun e => S.na (x := 2) (Or.inl (by omega)) e.symm
  have nx : ∀ x, Us i j k x → x ≠ 30 + j := fun x hx e => by unfold Us at hx; omega
  have ne : ∀ x, Us i j k x → x ≠ 2 → nm x ≠ nm 2 := fun x hx n e => n (S.2.1 x 2 hx (Or.inl (by omega)) e)
  obtain ⟨⟨c0, ⟨f1, c1, d1⟩, ⟨f2, c2, d2⟩, ⟨f3, c3, d3⟩, c4, c5, c6, c7⟩, g1, g2, g3, g4⟩ := id S
  have ef : f2 = f := by have := c2.symm.trans hf; simpa using this
  subst ef
  have gt : ∀ x, Us i j k x → x ≠ 2 → ∀ y, h (nm x) = some y → hset (hset h q (ePot G (nI j) 0 0 0 0 0 0 0 (-4))) (nm 2) (eR G 4 16 (va_up f2 j (some q))) (upN nm (30 + j) q x) = some y := fun x hx n y hy => by
    rw [upN_n (nx x hx), hset_n (ne x hx n), hset_n (nq x hx)]; exact hy
  have u1 : upN nm (30 + j) q 1 = nm 1 := upN_n (by omega)
  have u2 : upN nm (30 + j) q 2 = nm 2 := upN_n (by omega)
  have u3 : upN nm (30 + j) q 3 = nm 3 := upN_n (by omega)
  have u4 : upN nm (30 + j) q 4 = nm 4 := upN_n (by omega)
  refine ⟨⟨?_, ⟨f1, gt 1 (Or.inl (by omega)) (by omega) _ c1, fun x hx => by rw [upN_n (by omega)]; exact d1 x hx⟩, ⟨_, by rw [u2]; exact hset_s, upd_f d2⟩, ⟨f3, gt 3 (Or.inl (by omega)) (by omega) _ c3, fun x hx => by rw [upN_n (by omega)]; exact d3 x hx⟩, gt 4 (Or.inl (by omega)) (by omega) _ c4, fun x hx => gt _ (Or.inr (Or.inl (by omega))) (by omega) _ (c5 x hx), fun x hx => ?_, fun x hx => gt _ (Or.inr (Or.inr (Or.inr (by omega)))) (by omega) _ (c7 x hx)⟩, ?_, ?_, ?_, g4⟩
  · rw [hset_n na1, hset_n naq, u1, u2, u3, u4]; exact c0
  · by_cases e : x = j
    · subst e
      rw [upN_s, hset_n (fun e => nq 2 (Or.inl (by omega)) e.symm), hset_s]
    · exact gt _ (Or.inr (Or.inr (Or.inl (by omega)))) (by omega) _ (c6 x (by omega))
  · intro x y hx hy e
    by_cases ex : x = 30 + j
    · by_cases ey : y = 30 + j
      · rw [ex, ey]
      · rw [ex, upN_s, upN_n ey] at e
        exact absurd e.symm (nq y (by unfold Us at *; omega))
    · by_cases ey : y = 30 + j
      · rw [ey, upN_s, upN_n ex] at e
        exact absurd e (nq x (by unfold Us at *; omega))
      · rw [upN_n ex, upN_n ey] at e
        exact g1 x y (by unfold Us at *; omega) (by unfold Us at *; omega) e
  · intro x hx
    by_cases ex : x = 30 + j
    · rw [ex, upN_s]
      refine ⟨?_, gq⟩
      cases hq : h0 q with
      | none => rfl
      | some y => exact absurd zq (S.mono q (by rw [hq]; simp))
    · rw [upN_n ex]
      exact g2 x (by unfold Us at *; omega)
  · intro x y hx nP
    have h1 := g3 x y hx nP
    have n1 : x ≠ q := fun e => by rw [e, zq] at h1; cases h1
    have n2 : x ≠ nm 2 := fun e => by rw [e, (g2 2 (Or.inl (by omega))).1] at hx; cases hx
    rw [hset_n n2, hset_n n1]; exact h1
theorem ShI.ord (S : ShI G h0 a h nm i j k) (hi : i ≤ 12) (hj : j ≤ 16) (hk : k < 8) (zq : h q = none) (gq : G.2.2.1 q) {f : Nat → Option Nat} (hf : h (nm 3) = some (eR G 5 8 f)) : ShI G h0 a (hset (hset h q (eOrd G 0 0 0 (-4) 0)) (nm 3) (eR G 5 8 (va_up f k (some q)))) (upN nm (50 + k) q) i j (k + 1) := by
  have nq : ∀ x, Us i j k x → nm x ≠ q := fun x hx e => S.1.dom x hx (e ▸ zq)
  have naq : a ≠ q := fun e => by have := S.1.1; rw [e, zq] at this; cases this
  have na1 : a ≠ nm 3 := fun e => S.na (x := 3) (Or.inl (by omega)) e.symm
  have nx : ∀ x, Us i j k x → x ≠ 50 + k := fun x hx e => by unfold Us at hx; omega
  have ne : ∀ x, Us i j k x → x ≠ 3 → nm x ≠ nm 3 := fun x hx n e => n (S.2.1 x 3 hx (Or.inl (by omega)) e)
  obtain ⟨⟨c0, ⟨f1, c1, d1⟩, ⟨f2, c2, d2⟩, ⟨f3, c3, d3⟩, c4, c5, c6, c7⟩, g1, g2, g3, g4⟩ := id S
  have ef : f3 = f := by have := c3.symm.trans hf; simpa using this
  subst ef
  have gt : ∀ x, Us i j k x → x ≠ 3 → ∀ y, h (nm x) = some y → hset (hset h q (eOrd G 0 0 0 (-4) 0)) (nm 3) (eR G 5 8 (va_up f3 k (some q))) (upN nm (50 + k) q x) = some y := fun x hx n y hy => by
    rw [upN_n (nx x hx), hset_n (ne x hx n), hset_n (nq x hx)]; exact hy
  have u1 : upN nm (50 + k) q 1 = nm 1 := upN_n (by omega)
  have u2 : upN nm (50 + k) q 2 = nm 2 := upN_n (by omega)
  have u3 : upN nm (50 + k) q 3 = nm 3 := upN_n (by omega)
  have u4 : upN nm (50 + k) q 4 = nm 4 := upN_n (by omega)
  refine ⟨⟨?_, ⟨f1, gt 1 (Or.inl (by omega)) (by omega) _ c1, fun x hx => by rw [upN_n (by omega)]; exact d1 x hx⟩, ⟨f2, gt 2 (Or.inl (by omega)) (by omega) _ c2, fun x hx => by rw [upN_n (by omega)]; exact d2 x hx⟩, ⟨_, by rw [u3]; exact hset_s, upd_f d3⟩, gt 4 (Or.inl (by omega)) (by omega) _ c4, fun x hx => gt _ (Or.inr (Or.inl (by omega))) (by omega) _ (c5 x hx), fun x hx => gt _ (Or.inr (Or.inr (Or.inl (by omega)))) (by omega) _ (c6 x hx), fun x hx => ?_⟩, ?_, ?_, ?_, g4⟩
  · rw [hset_n na1, hset_n naq, u1, u2, u3, u4]; exact c0
  · by_cases e : x = k
    · subst e
      rw [upN_s, hset_n (fun e => nq 3 (Or.inl (by omega)) e.symm), hset_s]
    · exact gt _ (Or.inr (Or.inr (Or.inr (by omega)))) (by omega) _ (c7 x (by omega))
  · intro x y hx hy e
    by_cases ex : x = 50 + k
    · by_cases ey : y = 50 + k
      · rw [ex, ey]
      · rw [ex, upN_s, upN_n ey] at e
        exact absurd e.symm (nq y (by unfold Us at *; omega))
    · by_cases ey : y = 50 + k
      · rw [ey, upN_s, upN_n ex] at e
        exact absurd e (nq x (by unfold Us at *; omega))
      · rw [upN_n ex, upN_n ey] at e
        exact g1 x y (by unfold Us at *; omega) (by unfold Us at *; omega) e
  · intro x hx
    by_cases ex : x = 50 + k
    · rw [ex, upN_s]
      refine ⟨?_, gq⟩
      cases hq : h0 q with
      | none => rfl
      | some y => exact absurd zq (S.mono q (by rw [hq]; simp))
    · rw [upN_n ex]
      exact g2 x (by unfold Us at *; omega)
  · intro x y hx nP
    have h1 := g3 x y hx nP
    have n1 : x ≠ q := fun e => by rw [e, zq] at h1; cases h1
    have n2 : x ≠ nm 3 := fun e => by rw [e, (g2 3 (Or.inl (by omega))).1] at hx; cases hx
    rw [hset_n n2, hset_n n1]; exact h1
end SHI
