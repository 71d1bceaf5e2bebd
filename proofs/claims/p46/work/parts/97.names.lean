/-! ===== the street's names ===== -/
def UC (i : Nat) : Prop := (1 ≤ i ∧ i < 17) ∨ ∃ s x, s < 11 ∧ okI x ∧ i = 100 * (s + 1) + x
def strU (q1 q5 q7 q8 q9 q14 b14 : Nat) (u2 u6 u9 v : Nat → Nat) : Nat → Nat := fun j =>
  if j = 1 then q1 else if j < 5 then u2 j else if j = 5 then q5 else if j = 6 then u6 6 else if j = 7 then q7 else if j = 8 then q8 else if j = 9 then q9 else if j < 14 then u9 j else if j = 14 then q14 else if j = 15 then u9 15 else if j = 16 then b14 else if j < 1000 then u6 j else if j < 1100 then u2 j else v (j - 1100)
def strT (j : Nat) : Nat :=
  if j = 1 then 0 else if j < 5 then 1 else if j = 5 then 3 else if j = 6 then 4 else if j = 7 then 5 else if j = 8 then 6 else if j = 9 then 7 else if j < 14 then 8 else if j = 14 then 9 else if j = 15 then 8 else if j = 16 then 10 else if j < 1000 then 4 else if j < 1100 then 1 else 2
section STRU
variable {q1 q5 q7 q8 q9 q14 b14 : Nat} {u2 u6 u9 v : Nat → Nat}
theorem str_6 {s x : Nat} (hs : s < 9) (hx : okI x) : strU q1 q5 q7 q8 q9 q14 b14 u2 u6 u9 v (100 * (s + 1) + x) = u6 (100 * (s + 1) + x) ∧ strT (100 * (s + 1) + x) = 4 := by
  have hl := okI_lt hx
  unfold strU strT
  constructor
  · (repeat rw [if_neg (by omega)])
    rw [if_pos (by omega)]
  · (repeat rw [if_neg (by omega)])
    rw [if_pos (by omega)]
theorem str_c {x : Nat} (hx : okI x) : strU q1 q5 q7 q8 q9 q14 b14 u2 u6 u9 v (1000 + x) = u2 (1000 + x) ∧ strT (1000 + x) = 1 := by
  have hl := okI_lt hx
  unfold strU strT
  constructor
  · (repeat rw [if_neg (by omega)])
    rw [if_pos (by omega)]
  · (repeat rw [if_neg (by omega)])
    rw [if_pos (by omega)]
theorem str_s {x : Nat} : strU q1 q5 q7 q8 q9 q14 b14 u2 u6 u9 v (1100 + x) = v x ∧ strT (1100 + x) = 2 := by
  unfold strU strT
  constructor
  · (repeat rw [if_neg (by omega)])
    rw [show 1100 + x - 1100 = x by omega]
  · (repeat rw [if_neg (by omega)])
theorem U2_b {x : Nat} (hx : okI x) : U2 (1000 + x) := Or.inr ⟨by omega, by rw [show 1000 + x - 1000 = x by omega]; exact hx⟩
theorem str_cl (i : Nat) (hi : UC i) : (strT i = 0 ∧ i = 1) ∨ (strT i = 1 ∧ U2 i ∧ strU q1 q5 q7 q8 q9 q14 b14 u2 u6 u9 v i = u2 i) ∨ (strT i = 2 ∧ ∃ x, okI x ∧ i = 1100 + x ∧ strU q1 q5 q7 q8 q9 q14 b14 u2 u6 u9 v i = v x) ∨ (strT i = 3 ∧ i = 5) ∨ (strT i = 4 ∧ U6 i ∧ strU q1 q5 q7 q8 q9 q14 b14 u2 u6 u9 v i = u6 i) ∨
    (strT i = 5 ∧ i = 7) ∨ (strT i = 6 ∧ i = 8) ∨ (strT i = 7 ∧ i = 9) ∨ (strT i = 8 ∧ U9 i ∧ strU q1 q5 q7 q8 q9 q14 b14 u2 u6 u9 v i = u9 i) ∨ (strT i = 9 ∧ i = 14) ∨ (strT i = 10 ∧ i = 16) := by
  rcases hi with ⟨h1, h2⟩ | ⟨s, x, hs, hx, rfl⟩
  · rcases (show i = 1 ∨ i = 2 ∨ i = 3 ∨ i = 4 ∨ i = 5 ∨ i = 6 ∨ i = 7 ∨ i = 8 ∨ i = 9 ∨ i = 10 ∨ i = 11 ∨ i = 12 ∨ i = 13 ∨ i = 14 ∨ i = 15 ∨ i = 16 by omega) with rfl | rfl | rfl | rfl | rfl | rfl | rfl | rfl | rfl | rfl | rfl | rfl | rfl | rfl | rfl | rfl
    · exact Or.inl ⟨rfl, rfl⟩
    · exact Or.inr (Or.inl ⟨rfl, Or.inl (by omega), rfl⟩)
    · exact Or.inr (Or.inl ⟨rfl, Or.inl (by omega), rfl⟩)
    · exact Or.inr (Or.inl ⟨rfl, Or.inl (by omega), rfl⟩)
    · exact Or.inr (Or.inr (Or.inr (Or.inl ⟨rfl, rfl⟩)))
    · exact Or.inr (Or.inr (Or.inr (Or.inr (Or.inl ⟨rfl, Or.inl rfl, rfl⟩))))
    · exact Or.inr (Or.inr (Or.inr (Or.inr (Or.inr (Or.inl ⟨rfl, rfl⟩)))))
    · exact Or.inr (Or.inr (Or.inr (Or.inr (Or.inr (Or.inr (Or.inl ⟨rfl, rfl⟩))))))
    · exact Or.inr (Or.inr (Or.inr (Or.inr (Or.inr (Or.inr (Or.inr (Or.inl ⟨rfl, rfl⟩)))))))
    · exact Or.inr (Or.inr (Or.inr (Or.inr (Or.inr (Or.inr (Or.inr (Or.inr (Or.inl ⟨rfl, Or.inl (by omega), rfl⟩))))))))
    · exact Or.inr (Or.inr (Or.inr (Or.inr (Or.inr (Or.inr (Or.inr (Or.inr (Or.inl ⟨rfl, Or.inl (by omega), rfl⟩))))))))
    · exact Or.inr (Or.inr (Or.inr (Or.inr (Or.inr (Or.inr (Or.inr (Or.inr (Or.inl ⟨rfl, Or.inl (by omega), rfl⟩))))))))
    · exact Or.inr (Or.inr (Or.inr (Or.inr (Or.inr (Or.inr (Or.inr (Or.inr (Or.inl ⟨rfl, Or.inl (by omega), rfl⟩))))))))
    · exact Or.inr (Or.inr (Or.inr (Or.inr (Or.inr (Or.inr (Or.inr (Or.inr (Or.inr (Or.inl ⟨rfl, rfl⟩)))))))))
    · exact Or.inr (Or.inr (Or.inr (Or.inr (Or.inr (Or.inr (Or.inr (Or.inr (Or.inl ⟨rfl, Or.inr rfl, rfl⟩))))))))
    · exact Or.inr (Or.inr (Or.inr (Or.inr (Or.inr (Or.inr (Or.inr (Or.inr (Or.inr (Or.inr ⟨rfl, rfl⟩)))))))))
  · rcases Nat.lt_or_ge s 9 with z | z
    · obtain ⟨e1, e2⟩ := str_6 (q1 := q1) (q5 := q5) (q7 := q7) (q8 := q8) (q9 := q9) (q14 := q14) (b14 := b14) (u2 := u2) (u6 := u6) (u9 := u9) (v := v) z hx
      exact Or.inr (Or.inr (Or.inr (Or.inr (Or.inl ⟨e2, Or.inr ⟨s, x, z, hx, rfl⟩, e1⟩))))
    · rcases (show s = 9 ∨ s = 10 by omega) with rfl | rfl
      · obtain ⟨e1, e2⟩ := str_c (q1 := q1) (q5 := q5) (q7 := q7) (q8 := q8) (q9 := q9) (q14 := q14) (b14 := b14) (u2 := u2) (u6 := u6) (u9 := u9) (v := v) hx
        exact Or.inr (Or.inl ⟨e2, U2_b hx, e1⟩)
      · obtain ⟨e1, e2⟩ := str_s (q1 := q1) (q5 := q5) (q7 := q7) (q8 := q8) (q9 := q9) (q14 := q14) (b14 := b14) (u2 := u2) (u6 := u6) (u9 := u9) (v := v) (x := x)
        exact Or.inr (Or.inr (Or.inl ⟨e2, x, hx, rfl, e1⟩))
/-- what is new and stands behind its making -/
def At1 (G : Gl) (h h' : Hp) (q : Nat) : Prop := h q = none ∧ G.2.2.1 q ∧ h' q ≠ none
theorem str_fin {G : Gl} {h T1 hB hC T5 hD T7 hE T9 hF T11 hG : Hp} (m0 : ∀ x, h x ≠ none → T1 x ≠ none) (m1 : ∀ x, T1 x ≠ none → hB x ≠ none) (m2 : ∀ x, hB x ≠ none → hC x ≠ none) (m3 : ∀ x, hC x ≠ none → T5 x ≠ none) (m4 : ∀ x, T5 x ≠ none → hD x ≠ none) (m5 : ∀ x, hD x ≠ none → T7 x ≠ none)
    (m6 : ∀ x, T7 x ≠ none → hE x ≠ none) (m7 : ∀ x, hE x ≠ none → T9 x ≠ none) (m8 : ∀ x, T9 x ≠ none → hF x ≠ none) (m9 : ∀ x, hF x ≠ none → T11 x ≠ none) (m10 : ∀ x, T11 x ≠ none → hG x ≠ none)
    (z1 : At1 G h T1 q1) (f2 : Frs G T1 U2 u2) (d2 : ∀ i, U2 i → hB (u2 i) ≠ none) (fv : Frs G hB okI v) (dv : ∀ i, okI i → hC (v i) ≠ none) (z5 : At1 G hC T5 q5) (f6 : Frs G T5 U6 u6) (d6 : ∀ i, U6 i → hD (u6 i) ≠ none) (z7 : At1 G hD T7 q7) (z8 : At1 G T7 hE q8) (z9 : At1 G hE T9 q9) (f9 : Frs G T9 U9 u9) (d9 : ∀ i, U9 i → hF (u9 i) ≠ none) (z14 : At1 G hF T11 q14) (zb : At1 G T11 hG b14) :
    Frs G h UC (strU q1 q5 q7 q8 q9 q14 b14 u2 u6 u9 v) ∧ ∀ i, UC i → hG (strU q1 q5 q7 q8 q9 q14 b14 u2 u6 u9 v i) ≠ none := by
  obtain ⟨T, hT⟩ : ∃ T : Nat → Hp, T = fun k => match k with
    | 0 => h | 1 => T1 | 2 => hB | 3 => hC | 4 => T5 | 5 => hD | 6 => T7 | 7 => hE | 8 => T9 | 9 => hF | 10 => T11 | _ => hG := ⟨_, rfl⟩
  have t0 : T 0 = h := by rw [hT]; rfl
  have t1 : T 1 = T1 := by rw [hT]; rfl
  have t2 : T 2 = hB := by rw [hT]; rfl
  have t3 : T 3 = hC := by rw [hT]; rfl
  have t4 : T 4 = T5 := by rw [hT]; rfl
  have t5 : T 5 = hD := by rw [hT]; rfl
  have t6 : T 6 = T7 := by rw [hT]; rfl
  have t7 : T 7 = hE := by rw [hT]; rfl
  have t8 : T 8 = T9 := by rw [hT]; rfl
  have t9 : T 9 = hF := by rw [hT]; rfl
  have t10 : T 10 = T11 := by rw [hT]; rfl
  have tG : ∀ n, T (n + 11) = hG := fun n => by rw [hT]; rfl
  have mono : ∀ k x, T k x ≠ none → T (k + 1) x ≠ none := by
    intro k x hx
    rcases (show k = 0 ∨ k = 1 ∨ k = 2 ∨ k = 3 ∨ k = 4 ∨ k = 5 ∨ k = 6 ∨ k = 7 ∨ k = 8 ∨ k = 9 ∨ k = 10 ∨ 11 ≤ k by omega) with rfl | rfl | rfl | rfl | rfl | rfl | rfl | rfl | rfl | rfl | rfl | hk
    · rw [t0] at hx; rw [t1]; exact m0 x hx
    · rw [t1] at hx; rw [t2]; exact m1 x hx
    · rw [t2] at hx; rw [t3]; exact m2 x hx
    · rw [t3] at hx; rw [t4]; exact m3 x hx
    · rw [t4] at hx; rw [t5]; exact m4 x hx
    · rw [t5] at hx; rw [t6]; exact m5 x hx
    · rw [t6] at hx; rw [t7]; exact m6 x hx
    · rw [t7] at hx; rw [t8]; exact m7 x hx
    · rw [t8] at hx; rw [t9]; exact m8 x hx
    · rw [t9] at hx; rw [t10]; exact m9 x hx
    · rw [t10] at hx; rw [show 10 + 1 = 0 + 11 from rfl, tG]; exact m10 x hx
    · rw [show k + 1 = (k + 1 - 11) + 11 by omega, tG]
      rw [show k = (k - 11) + 11 by omega, tG] at hx
      exact hx
  have up : ∀ d k x, T k x ≠ none → T (k + d) x ≠ none := by
    intro d
    induction d with
    | zero => exact fun k x hx => hx
    | succ d ih => exact fun k x hx => mono (k + d) x (ih k x hx)
  have dn0 : ∀ k x, T k x = none → h x = none := fun k x hx => by
    cases hh : h x with
    | none => rfl
    | some y =>
      have := up k 0 x (by rw [t0, hh]; simp)
      rw [Nat.zero_add] at this
      exact absurd hx this
  have key : ∀ i, UC i → T (strT i) (strU q1 q5 q7 q8 q9 q14 b14 u2 u6 u9 v i) = none ∧ G.2.2.1 (strU q1 q5 q7 q8 q9 q14 b14 u2 u6 u9 v i) ∧ T (strT i + 1) (strU q1 q5 q7 q8 q9 q14 b14 u2 u6 u9 v i) ≠ none := by
    intro i hi
    rcases str_cl (q1 := q1) (q5 := q5) (q7 := q7) (q8 := q8) (q9 := q9) (q14 := q14) (b14 := b14) (u2 := u2) (u6 := u6) (u9 := u9) (v := v) i hi with ⟨e, rfl⟩ | ⟨e, k, e2⟩ | ⟨e, x, k, rfl, e2⟩ | ⟨e, rfl⟩ | ⟨e, k, e2⟩ | ⟨e, rfl⟩ | ⟨e, rfl⟩ | ⟨e, rfl⟩ | ⟨e, k, e2⟩ | ⟨e, rfl⟩ | ⟨e, rfl⟩
    · rw [e, t0, t1]; exact z1
    · rw [e, e2, t1, t2]; exact ⟨(f2.2 i k).1, (f2.2 i k).2, d2 i k⟩
    · rw [e, e2, t2, t3]; exact ⟨(fv.2 x k).1, (fv.2 x k).2, dv x k⟩
    · rw [e, t3, t4]; exact z5
    · rw [e, e2, t4, t5]; exact ⟨(f6.2 i k).1, (f6.2 i k).2, d6 i k⟩
    · rw [e, t5, t6]; exact z7
    · rw [e, t6, t7]; exact z8
    · rw [e, t7, t8]; exact z9
    · rw [e, e2, t8, t9]; exact ⟨(f9.2 i k).1, (f9.2 i k).2, d9 i k⟩
    · rw [e, t9, t10]; exact z14
    · rw [e, t10, show 10 + 1 = 0 + 11 from rfl, tG]; exact zb
  refine ⟨⟨st_inj mono (fun i hi => (key i hi).1) (fun i hi => (key i hi).2.2) ?_, fun i hi => ⟨dn0 _ _ (key i hi).1, (key i hi).2.1⟩⟩, fun i hi => ?_⟩
  · intro i j hi hj es eu
    rcases str_cl (q1 := q1) (q5 := q5) (q7 := q7) (q8 := q8) (q9 := q9) (q14 := q14) (b14 := b14) (u2 := u2) (u6 := u6) (u9 := u9) (v := v) i hi with ⟨e, k⟩ | ⟨e, k, e2⟩ | ⟨e, x, k, k1, e2⟩ | ⟨e, k⟩ | ⟨e, k, e2⟩ | ⟨e, k⟩ | ⟨e, k⟩ | ⟨e, k⟩ | ⟨e, k, e2⟩ | ⟨e, k⟩ | ⟨e, k⟩ <;>
    rcases str_cl (q1 := q1) (q5 := q5) (q7 := q7) (q8 := q8) (q9 := q9) (q14 := q14) (b14 := b14) (u2 := u2) (u6 := u6) (u9 := u9) (v := v) j hj with ⟨f, k'⟩ | ⟨f, k', f2'⟩ | ⟨f, x', k', k1', f2'⟩ | ⟨f, k'⟩ | ⟨f, k', f2'⟩ | ⟨f, k'⟩ | ⟨f, k'⟩ | ⟨f, k'⟩ | ⟨f, k', f2'⟩ | ⟨f, k'⟩ | ⟨f, k'⟩ <;>
    first
      | (rw [e, f] at es; exact absurd es (by decide))
      | exact k.trans k'.symm
      | (rw [e2, f2'] at eu; first | exact f2.1 i j k k' eu | exact f6.1 i j k k' eu | exact f9.1 i j k k' eu | (rw [k1, k1', fv.1 x x' k k' eu]))
  · have := up (11 - (strT i + 1)) (strT i + 1) _ (key i hi).2.2
    have hs : strT i ≤ 10 := by
      rcases str_cl (q1 := q1) (q5 := q5) (q7 := q7) (q8 := q8) (q9 := q9) (q14 := q14) (b14 := b14) (u2 := u2) (u6 := u6) (u9 := u9) (v := v) i hi with ⟨e, k⟩ | ⟨e, k, e2⟩ | ⟨e, x, k, k1, e2⟩ | ⟨e, k⟩ | ⟨e, k, e2⟩ | ⟨e, k⟩ | ⟨e, k⟩ | ⟨e, k⟩ | ⟨e, k, e2⟩ | ⟨e, k⟩ | ⟨e, k⟩ <;> omega
    rw [show strT i + 1 + (11 - (strT i + 1)) = 0 + 11 by omega, tG] at this
    exact this
end STRU
