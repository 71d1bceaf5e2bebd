/-! ===== growth: what a constructor leaves of a heap ===== -/
/-- h' holds all that h does, but for what stands at a, which stands still -/
def Gr (a : Nat) (h h' : Hp) : Prop := Fr (fun x => x = a) h h' ∧ h' a ≠ none
section GR
variable {a q : Nat} {h h1 h2 : Hp} {e : va_E}
theorem Gr.rf (ha : h a ≠ none) : Gr a h h := ⟨Fr.rf, ha⟩
theorem Gr.new (g : Gr a h h1) (z : h1 q = none) : Gr a h (hset h1 q e) := by
  have n : a ≠ q := fun x => g.2 (by rw [x]; exact z)
  refine ⟨fun y x hy ny => ?_, by rw [hset_n n]; exact g.2⟩
  have := g.1 y x hy ny
  rw [hset_n (fun k => by rw [k, z] at this; cases this)]
  exact this
theorem Gr.put (g : Gr a h h1) : Gr a h (hset h1 a e) := ⟨g.1.st rfl, by rw [hset_s]; simp⟩
theorem Gr.sub (g : Gr a h h1) (k : Gr q h1 h2) (z : h q = none) (n : a ≠ q) : Gr a h h2 := by
  refine ⟨fun y x hy ny => ?_, ?_⟩
  · exact k.1 y x (g.1 y x hy ny) (fun e => by rw [e, z] at hy; cases hy)
  · cases hh : h1 a with
    | none => exact absurd hh g.2
    | some x => rw [k.1 a x hh n]; simp
theorem Gr.dom (g : Gr a h h1) {x : Nat} (hx : h x ≠ none) : h1 x ≠ none := by
  by_cases e : x = a
  · rw [e]; exact g.2
  · cases hh : h x with
    | none => exact absurd hh hx
    | some y => rw [g.1 x y hh e]; simp
theorem Gr.non (g : Gr a h h1) {x : Nat} (hx : h1 x = none) : h x = none := by
  cases hh : h x with
  | none => rfl
  | some y => exact absurd hx (g.dom (by rw [hh]; simp))
theorem none_ne {x y : Nat} (hx : h x ≠ none) (hy : h y = none) : x ≠ y := fun e => hx (e ▸ hy)
theorem some_nn {x : Nat} (hx : h x = some e) : h x ≠ none := by rw [hx]; simp
end GR
/-- names u of U: apart, new in h, of the free places -/
def Frs (G : Gl) (h : Hp) (U : Nat → Prop) (u : Nat → Nat) : Prop := (∀ i j, U i → U j → u i = u j → i = j) ∧ ∀ i, U i → h (u i) = none ∧ G.2.2.1 (u i)
/-- names that came to be at different times are apart -/
theorem st_inj {T : Nat → Hp} {u : Nat → Nat} {U : Nat → Prop} {st : Nat → Nat} (mono : ∀ k x, T k x ≠ none → T (k + 1) x ≠ none) (h1 : ∀ i, U i → T (st i) (u i) = none) (h2 : ∀ i, U i → T (st i + 1) (u i) ≠ none)
    (same : ∀ i j, U i → U j → st i = st j → u i = u j → i = j) : ∀ i j, U i → U j → u i = u j → i = j := by
  have up : ∀ d k x, T k x ≠ none → T (k + d) x ≠ none := by
    intro d
    induction d with
    | zero => exact fun k x hx => hx
    | succ d ih => exact fun k x hx => mono (k + d) x (ih k x hx)
  have lt : ∀ i j, U i → U j → st i < st j → u i ≠ u j := by
    intro i j hi hj hl e
    have a1 := up (st j - (st i + 1)) (st i + 1) (u i) (h2 i hi)
    rw [show st i + 1 + (st j - (st i + 1)) = st j by omega, e] at a1
    exact a1 (h1 j hj)
  intro i j hi hj e
  rcases Nat.lt_trichotomy (st i) (st j) with z | z | z
  · exact absurd e (lt i j hi hj z)
  · exact same i j hi hj z e
  · exact absurd e.symm (lt j i hj hi z)
theorem ShB.cg {G : Gl} {a : Nat} {h : Hp} {nm nm' : Nat → Nat} {i j k : Nat} (S : ShB G a h nm i j k) (e : ∀ x, Us i j k x → nm' x = nm x) : ShB G a h nm' i j k := by
  obtain ⟨c0, ⟨f1, c1, d1⟩, ⟨f2, c2, d2⟩, ⟨f3, c3, d3⟩, c4, c5, c6, c7⟩ := S
  have e1 := e 1 (Or.inl (by omega))
  have e2 := e 2 (Or.inl (by omega))
  have e3 := e 3 (Or.inl (by omega))
  have e4 := e 4 (Or.inl (by omega))
  refine ⟨by rw [e1, e2, e3, e4]; exact c0, ⟨f1, by rw [e1]; exact c1, fun q hq => by rw [e _ (Or.inr (Or.inl (by omega)))]; exact d1 q hq⟩, ⟨f2, by rw [e2]; exact c2, fun q hq => by rw [e _ (Or.inr (Or.inr (Or.inl (by omega))))]; exact d2 q hq⟩, ⟨f3, by rw [e3]; exact c3, fun q hq => by rw [e _ (Or.inr (Or.inr (Or.inr (by omega))))]; exact d3 q hq⟩, by rw [e4]; exact c4, fun q hq => by rw [e _ (Or.inr (Or.inl (by omega)))]; exact c5 q hq, fun q hq => by rw [e _ (Or.inr (Or.inr (Or.inl (by omega))))]; exact c6 q hq, fun q hq => by rw [e _ (Or.inr (Or.inr (Or.inr (by omega))))]; exact c7 q hq⟩
theorem ShI.gr {G : Gl} {h0 h : Hp} {a : Nat} {nm : Nat → Nat} {i j k : Nat} (S : ShI G h0 a h nm i j k) : Gr a h0 h := ⟨S.2.2.2.1, some_nn S.1.1⟩
theorem okI_Us {x : Nat} (h : okI x) (n : x ≠ 0) : Us 12 16 8 x := by unfold okI at h; unfold Us; omega
theorem Us_okI {x : Nat} (h : Us 12 16 8 x) : okI x ∧ x ≠ 0 := by unfold Us at h; unfold okI; omega
/-- a shop's names, its own too -/
def nm0 (nm : Nat → Nat) (q : Nat) : Nat → Nat := fun x => if x = 0 then q else nm x
theorem nm0_0 (nm : Nat → Nat) (q : Nat) : nm0 nm q 0 = q := if_pos rfl
theorem nm0_n {nm : Nat → Nat} {q x : Nat} (h : x ≠ 0) : nm0 nm q x = nm x := if_neg h
/-- behind 'new Shop()': all its names are new and apart, and stand -/
theorem ShI.all {G : Gl} {h h1 : Hp} {q : Nat} {e : va_E} {nm : Nat → Nat} (S : ShI G (hset h q e) q h1 nm 12 16 8) (z : h q = none) (g : G.2.2.1 q) : Frs G h okI (nm0 nm q) ∧ (∀ x, okI x → h1 (nm0 nm q x) ≠ none) ∧ ShB G q h1 (nm0 nm q) 12 16 8 := by
  refine ⟨⟨fun x y hx hy e => ?_, fun x hx => ?_⟩, fun x hx => ?_, S.1.cg (fun x hx => nm0_n (Us_okI hx).2)⟩
  · by_cases x0 : x = 0
    · by_cases y0 : y = 0
      · rw [x0, y0]
      · rw [x0, nm0_0, nm0_n y0] at e
        exact absurd e.symm (S.na (okI_Us hy y0))
    · by_cases y0 : y = 0
      · rw [y0, nm0_0, nm0_n x0] at e
        exact absurd e (S.na (okI_Us hx x0))
      · rw [nm0_n x0, nm0_n y0] at e
        exact S.2.1 x y (okI_Us hx x0) (okI_Us hy y0) e
  · by_cases x0 : x = 0
    · rw [x0, nm0_0]; exact ⟨z, g⟩
    · rw [nm0_n x0]
      obtain ⟨a1, a2⟩ := S.2.2.1 x (okI_Us hx x0)
      rw [hset_n (S.na (okI_Us hx x0))] at a1
      exact ⟨a1, a2⟩
  · by_cases x0 : x = 0
    · rw [x0, nm0_0, S.1.1]; simp
    · rw [nm0_n x0]; exact S.1.dom x (okI_Us hx x0)
def U2 (i : Nat) : Prop := (2 ≤ i ∧ i < 5) ∨ (1000 ≤ i ∧ okI (i - 1000))
def U6 (i : Nat) : Prop := i = 6 ∨ ∃ s x, s < 9 ∧ okI x ∧ i = 100 * (s + 1) + x
def U9 (i : Nat) : Prop := (10 ≤ i ∧ i < 14) ∨ i = 15
def UM (i : Nat) : Prop := 21 ≤ i ∧ i < 32
