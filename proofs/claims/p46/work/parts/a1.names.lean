/-! ===== from the constructors' names to the final ones ===== -/
def Gn (G : Gl) (NM : Nat → Nat) : Gl := (G.1, G.2.1, G.2.2.1, fun i => if i < 100 then G.2.2.2 i else NM (i - 100))
section GN
variable {l : Launch} {G : Gl} {NM : Nat → Nat} {M : MM} {rm : Room} {Q : Option Value → Hp → Prop} {mc ms pc : Nat} {L : List (Nat × Value)} {st : List Value} {h : Hp}
theorem Gn_ad (i : Nat) : Ad (Gn G NM) i = NM i := by
  show (if 100 + i < 100 then G.2.2.2 (100 + i) else NM (100 + i - 100)) = NM i
  rw [if_neg (by omega), Nat.add_sub_cancel_left]
theorem Gn_k {i : Nat} (hi : i < 100) : (Gn G NM).2.2.2 i = G.2.2.2 i := if_pos hi
theorem va_En_cg {E d : String} {nm : List String} {F : List (String × String × String × List Int32)} {ad ad' : Nat → Nat} {A : Nat → Prop} {U : State} {H : Heap} (h : va_En E d nm F ad A U H) (e : ∀ i, i < nm.length → ad' i = ad i) : va_En E d nm F ad' A U H :=
  ⟨fun i hi => by rw [e i hi]; exact h.1 i hi, fun i j hi hj x => h.2 i j hi hj (by rw [← e i hi, ← e j hj]; exact x)⟩
theorem va_T_cg {ty : FieldType} {t N : Nat} {f f' : Nat → Value} {A : Nat → Prop} {U : State} {H : Heap} (h : va_T ty t N f A U H) (e : ∀ i, i < N → f' i = f i) : va_T ty t N f' A U H := by
  obtain ⟨cell, h1, h2, h3, h4, h5, h6, h7⟩ := h
  exact ⟨cell, h1, h2, h3, h4, h5, fun j hj => by rw [e j hj]; exact h6 j hj, h7⟩
theorem Sta.sw {U : State} (h : Sta G U) : Sta (Gn G NM) U := by
  obtain ⟨h1, h2, h3, s1, s5, s6, s10, n, xs, hn, hX, nb⟩ := h
  have g : ∀ i, i < 100 → (Gn G NM).2.2.2 i = G.2.2.2 i := fun i hi => Gn_k hi
  have n1 : nmKd.length = 3 := rfl
  refine ⟨h1, h2, h3, va_En_cg s1 (fun i hi => g i (by omega)), ?_, ?_, s10, n, xs, hn, ?_, ?_⟩
  · rw [g 10 (by omega)]; exact s5
  · rw [g 10 (by omega)]; exact va_T_cg s6 (fun i hi => congrArg Value.ref (g i (by omega)))
  · rw [g 60 (by omega)]; exact hX
  · rw [g 60 (by omega)]; exact nb
theorem x_G (NM : Nat → Nat) (k : XX l (Gn G NM) M rm (KQ (Gn G NM) rm Q) mc ms pc L st h) : XX l G M rm (KQ G rm Q) mc ms pc L st h := fun p e s m args below meth c C H locs cells slots ls hR hS hl h1 h2 =>
  k p e s m args below meth c ⟨C.1, C.2.1, C.2.2.1, C.2.2.2.1, C.2.2.2.2.1, C.2.2.2.2.2.1, C.2.2.2.2.2.2.1, C.2.2.2.2.2.2.2.1, C.2.2.2.2.2.2.2.2.1.sw, C.2.2.2.2.2.2.2.2.2⟩ H locs cells slots ls hR hS hl h1 h2
end GN
theorem bnd (f : Nat → Nat) : ∀ n, ∃ B, ∀ i, i < n → f i < B
  | 0 => ⟨0, fun i hi => absurd hi (Nat.not_lt_zero i)⟩
  | n + 1 => by
    obtain ⟨B, hB⟩ := bnd f n
    refine ⟨B + f n + 1, fun i hi => ?_⟩
    rcases (show i < n ∨ i = n by omega) with z | rfl
    · have := hB i z; omega
    · omega
theorem UC_ne {i : Nat} (h : UC i) : (1 ≤ i ∧ i < 17) ∨ 100 ≤ i := by
  rcases h with h | ⟨s, x, -, -, rfl⟩
  · exact Or.inl h
  · exact Or.inr (by omega)
theorem UC_s {s x : Nat} (hs : s < 11) (hx : okI x) : UC (100 * (s + 1) + x) := Or.inr ⟨s, x, hs, hx, rfl⟩
theorem UC_n {i : Nat} (h1 : 1 ≤ i) (h2 : i < 17) : UC i := Or.inl ⟨h1, h2⟩
theorem names {A : Nat → Prop} {a0 a20 z : Nat} {u v : Nat → Nat} (hz : ∀ q, z ≤ q → A q) (A0 : A a0) (A20 : A a20) (Fu : ∀ i j, UC i → UC j → u i = u j → i = j) (Au : ∀ i, UC i → A (u i)) (Fv : ∀ i j, UM i → UM j → v i = v j → i = j) (Av : ∀ i, UM i → A (v i)) (n1 : ∀ i, UC i → u i ≠ a0) (n2 : ∀ i, UC i → u i ≠ a20) (n3 : a0 ≠ a20) (n4 : ∀ i, UM i → v i ≠ a0) (n5 : ∀ i, UM i → v i ≠ a20) (n6 : ∀ i j, UC i → UM j → u i ≠ v j) :
    ∃ NM : Nat → Nat, NM 0 = a0 ∧ (∀ i, UC i → i ≠ 15 → i ≠ 16 → NM i = u i) ∧ NM 20 = a20 ∧ (∀ i, UM i → NM i = v i) ∧ (∀ i j, i < 3000 → j < 3000 → NM i = NM j → i = j) ∧ (∀ i, i < 3000 → A (NM i)) ∧ (∀ i, i < 3000 → NM i ≠ u 15 ∧ NM i ≠ u 16) := by
  obtain ⟨B1', hB1⟩ := bnd u 3000
  obtain ⟨B2', hB2⟩ := bnd v 3000
  obtain ⟨B, hB⟩ : ∃ B, B = z + B1' + B2' + a0 + a20 + 1 := ⟨_, rfl⟩
  have B1 : ∀ i, i < 3000 → u i < B := fun i hi => by have := hB1 i hi; omega
  have B2 : ∀ i, i < 3000 → v i < B := fun i hi => by have := hB2 i hi; omega
  have h0 : ∀ i : Nat, ∃ q : Nat, (i = 0 ∧ q = a0) ∨ (UC i ∧ i ≠ 15 ∧ i ≠ 16 ∧ q = u i) ∨ (i = 20 ∧ q = a20) ∨ (UM i ∧ q = v i) ∨ (¬ i = 0 ∧ ¬ (UC i ∧ i ≠ 15 ∧ i ≠ 16) ∧ ¬ i = 20 ∧ ¬ UM i ∧ q = B + i) := by
    intro i
    by_cases c1 : i = 0
    · exact ⟨a0, Or.inl ⟨c1, rfl⟩⟩
    by_cases c2 : UC i ∧ i ≠ 15 ∧ i ≠ 16
    · exact ⟨u i, Or.inr (Or.inl ⟨c2.1, c2.2.1, c2.2.2, rfl⟩)⟩
    by_cases c3 : i = 20
    · exact ⟨a20, Or.inr (Or.inr (Or.inl ⟨c3, rfl⟩))⟩
    by_cases c4 : UM i
    · exact ⟨v i, Or.inr (Or.inr (Or.inr (Or.inl ⟨c4, rfl⟩)))⟩
    · exact ⟨B + i, Or.inr (Or.inr (Or.inr (Or.inr ⟨c1, c2, c3, c4, rfl⟩)))⟩
  obtain ⟨NM, hN⟩ := Classical.axiomOfChoice h0
  have kd : ∀ i, (i = 0 ∧ NM i = a0) ∨ (UC i ∧ i ≠ 15 ∧ i ≠ 16 ∧ NM i = u i) ∨ (i = 20 ∧ NM i = a20) ∨ (UM i ∧ NM i = v i) ∨ NM i = B + i := fun i => by
    rcases hN i with h | h | h | h | ⟨-, -, -, -, h⟩
    · exact Or.inl h
    · exact Or.inr (Or.inl h)
    · exact Or.inr (Or.inr (Or.inl h))
    · exact Or.inr (Or.inr (Or.inr (Or.inl h)))
    · exact Or.inr (Or.inr (Or.inr (Or.inr h)))
  refine ⟨NM, ?_, fun i hU h15 h16 => ?_, ?_, fun i hU => ?_, fun i j hi hj w => ?_, fun i hi => ?_, fun i hi => ?_⟩
  · rcases hN 0 with ⟨-, h⟩ | ⟨h, -⟩ | ⟨h, -⟩ | ⟨h, -⟩ | ⟨h, -⟩
    · exact h
    · have := UC_ne h; omega
    · omega
    · unfold UM at h; omega
    · exact absurd rfl h
  · have hc := UC_ne hU
    rcases hN i with ⟨h, -⟩ | ⟨-, -, -, h⟩ | ⟨h, -⟩ | ⟨h, -⟩ | ⟨-, h, -⟩
    · omega
    · exact h
    · omega
    · unfold UM at h; omega
    · exact absurd ⟨hU, h15, h16⟩ h
  · rcases hN 20 with ⟨h, -⟩ | ⟨h, -⟩ | ⟨-, h⟩ | ⟨h, -⟩ | ⟨-, -, h, -⟩
    · omega
    · have := UC_ne h; omega
    · exact h
    · unfold UM at h; omega
    · exact absurd rfl h
  · have hc : 21 ≤ i ∧ i < 32 := hU
    rcases hN i with ⟨h, -⟩ | ⟨h, -⟩ | ⟨h, -⟩ | ⟨-, h⟩ | ⟨-, -, -, h, -⟩
    · omega
    · have := UC_ne h; omega
    · omega
    · exact h
    · exact absurd hU h
  · rcases kd i with ⟨e1, w1⟩ | ⟨U1, p1, r1, w1⟩ | ⟨e1, w1⟩ | ⟨U1, w1⟩ | w1 <;> rcases kd j with ⟨e2, w2⟩ | ⟨U2, p2, r2, w2⟩ | ⟨e2, w2⟩ | ⟨U2, w2⟩ | w2
    · omega
    · exact (n1 j U2 (w2.symm.trans (w.symm.trans w1))).elim
    · exact (n3 (w1.symm.trans (w.trans w2))).elim
    · exact (n4 j U2 (w2.symm.trans (w.symm.trans w1))).elim
    · omega
    · exact (n1 i U1 (w1.symm.trans (w.trans w2))).elim
    · exact Fu i j U1 U2 (w1.symm.trans (w.trans w2))
    · exact (n2 i U1 (w1.symm.trans (w.trans w2))).elim
    · exact (n6 i j U1 U2 (w1.symm.trans (w.trans w2))).elim
    · have := B1 i hi; omega
    · exact (n3 (w2.symm.trans (w.symm.trans w1))).elim
    · exact (n2 j U2 (w2.symm.trans (w.symm.trans w1))).elim
    · omega
    · exact (n5 j U2 (w2.symm.trans (w.symm.trans w1))).elim
    · omega
    · exact (n4 i U1 (w1.symm.trans (w.trans w2))).elim
    · exact (n6 j i U2 U1 (w2.symm.trans (w.symm.trans w1))).elim
    · exact (n5 i U1 (w1.symm.trans (w.trans w2))).elim
    · exact Fv i j U1 U2 (w1.symm.trans (w.trans w2))
    · have := B2 i hi; omega
    · omega
    · have := B1 j hj; omega
    · omega
    · have := B2 j hj; omega
    · omega
  · rcases kd i with ⟨e1, w1⟩ | ⟨U1, p1, r1, w1⟩ | ⟨e1, w1⟩ | ⟨U1, w1⟩ | w1
    · rw [w1]; exact A0
    · rw [w1]; exact Au i U1
    · rw [w1]; exact A20
    · rw [w1]; exact Av i U1
    · rw [w1]; exact hz _ (by omega)
  · have h15 := UC_n (i := 15) (by omega) (by omega)
    have h16 := UC_n (i := 16) (by omega) (by omega)
    rcases kd i with ⟨e1, w1⟩ | ⟨U1, p1, r1, w1⟩ | ⟨e1, w1⟩ | ⟨U1, w1⟩ | w1
    · rw [w1]; exact ⟨fun e => n1 15 h15 e.symm, fun e => n1 16 h16 e.symm⟩
    · rw [w1]; exact ⟨fun e => p1 (Fu _ _ U1 h15 e), fun e => r1 (Fu _ _ U1 h16 e)⟩
    · rw [w1]; exact ⟨fun e => n2 15 h15 e.symm, fun e => n2 16 h16 e.symm⟩
    · rw [w1]; exact ⟨fun e => n6 15 i h15 U1 e.symm, fun e => n6 16 i h16 U1 e.symm⟩
    · rw [w1]
      have b15 := B1 15 (by omega)
      have b16 := B1 16 (by omega)
      exact ⟨by omega, by omega⟩
