/-! ===== the class as it begins ===== -/
/-- the arrays of references, as the final names have them -/
def cE (G : Gl) (NM : Nat → Nat) (j : Nat) : Option va_E :=
  if j = 6 then some (eR G 6 9 (fun s => some (NM (100 * (s + 1))))) else if 100 ≤ j ∧ j < 1200 ∧ j % 100 = 1 then some (eR G 3 12 (fun i => some (NM (j + 9 + i)))) else if 100 ≤ j ∧ j < 1200 ∧ j % 100 = 2 then some (eR G 4 16 (fun i => some (NM (j + 28 + i)))) else if 100 ≤ j ∧ j < 1200 ∧ j % 100 = 3 then some (eR G 5 8 (fun i => some (NM (j + 47 + i)))) else none
theorem okI.lt {i : Nat} (h : okI i) : i < 60 := by unfold okI at h; omega
section REL0
variable {G : Gl} {NM : Nat → Nat}
theorem cE_n {j : Nat} (h6 : j ≠ 6) (h : j < 100 ∨ (j % 100 ≠ 1 ∧ j % 100 ≠ 2 ∧ j % 100 ≠ 3)) : cE G NM j = none := by
  unfold cE
  rw [if_neg h6, if_neg (by omega), if_neg (by omega), if_neg (by omega)]
theorem cE_1 {s : Nat} (hs : s < 11) : cE G NM (100 * (s + 1) + 1) = some (eR G 3 12 (fun i => some (NM (100 * (s + 1) + 10 + i)))) := by
  unfold cE
  rw [if_neg (by omega), if_pos (by omega), show (fun i => some (NM (100 * (s + 1) + 1 + 9 + i))) = fun i => some (NM (100 * (s + 1) + 10 + i)) from funext fun i => by rw [show 100 * (s + 1) + 1 + 9 + i = 100 * (s + 1) + 10 + i by omega]]
theorem cE_2 {s : Nat} (hs : s < 11) : cE G NM (100 * (s + 1) + 2) = some (eR G 4 16 (fun i => some (NM (100 * (s + 1) + 30 + i)))) := by
  unfold cE
  rw [if_neg (by omega), if_neg (by omega), if_pos (by omega), show (fun i => some (NM (100 * (s + 1) + 2 + 28 + i))) = fun i => some (NM (100 * (s + 1) + 30 + i)) from funext fun i => by rw [show 100 * (s + 1) + 2 + 28 + i = 100 * (s + 1) + 30 + i by omega]]
theorem cE_3 {s : Nat} (hs : s < 11) : cE G NM (100 * (s + 1) + 3) = some (eR G 5 8 (fun i => some (NM (100 * (s + 1) + 50 + i)))) := by
  unfold cE
  rw [if_neg (by omega), if_neg (by omega), if_neg (by omega), if_pos (by omega), show (fun i => some (NM (100 * (s + 1) + 3 + 47 + i))) = fun i => some (NM (100 * (s + 1) + 50 + i)) from funext fun i => by rw [show 100 * (s + 1) + 3 + 47 + i = 100 * (s + 1) + 50 + i by omega]]
theorem cE_6 : cE G NM 6 = some (eR G 6 9 (fun s => some (NM (100 * (s + 1))))) := if_pos rfl
/-- an index that holds an array of references -/
theorem cE_or (j : Nat) : cE G NM j = none ∨ j = 6 ∨ ∃ s, s < 11 ∧ (j = 100 * (s + 1) + 1 ∨ j = 100 * (s + 1) + 2 ∨ j = 100 * (s + 1) + 3) := by
  by_cases h6 : j = 6
  · exact Or.inr (Or.inl h6)
  by_cases h1 : 100 ≤ j ∧ j < 1200 ∧ (j % 100 = 1 ∨ j % 100 = 2 ∨ j % 100 = 3)
  · exact Or.inr (Or.inr ⟨j / 100 - 1, by omega, by omega⟩)
  · refine Or.inl ?_
    unfold cE
    rw [if_neg h6, if_neg (by omega), if_neg (by omega), if_neg (by omega)]
theorem ok0 : okI 0 := Or.inl (by omega)
theorem okS {i : Nat} (h : i < 12) : okI (10 + i) := Or.inr (Or.inl (by omega))
theorem okP {i : Nat} (h : i < 16) : okI (30 + i) := Or.inr (Or.inr (Or.inl (by omega)))
theorem okO {i : Nat} (h : i < 8) : okI (50 + i) := Or.inr (Or.inr (Or.inr (by omega)))
set_option maxRecDepth 100000 in
theorem cs0 {h : Hp} {a0 : Nat} {u : Nat → Nat} (q0 : NM 0 = a0) (qc : ∀ i, UC i → i ≠ 15 → i ≠ 16 → NM i = u i) (inj : ∀ i j, i < 3000 → j < 3000 → NM i = NM j → i = j)
    (s0 : h a0 = some (.inr (10, [.ref (u 1), .ref (u 1000), .ref (u 2), .ref (u 1100), .ref (u 5), .ref (u 7), .ref (u 9), .ref (u 14), .int 0, .int (-4)]))) (SS : StC G h u) :
    ∃ h', (∀ H, Rep G h H → Rep G h' H) ∧ Cs (Gn G NM) h' (clN (fun _ => 0)) 0 0 0 := by
  obtain ⟨t1, S9, t2, t3, t4, S10, t5, ⟨f6, t6, g6⟩, S8, t7, t8, t9, t10, t15, t11, t12, t13, t14, t16⟩ := SS
  have shB : ∀ s, s < 11 → ShB G (u (100 * (s + 1))) h (fun i => u (100 * (s + 1) + i)) 12 16 8 := fun s hs => by
    rcases (show s < 9 ∨ s = 9 ∨ s = 10 by omega) with z | rfl | rfl
    · exact S8 s z
    · exact S9
    · exact S10
  have nu : ∀ s, s < 11 → ∀ x, okI x → NM (100 * (s + 1) + x) = u (100 * (s + 1) + x) := fun s hs x hx => qc _ (UC_s hs hx) (by omega) (by omega)
  have hC : ∀ j, j < 3000 → ∀ e, cE G NM j = some e → ∃ t n f g, h (NM j) = some (eR G t n f) ∧ e = eR G t n g ∧ ∀ i, i < n → f i = g i := by
    intro j hj e he
    rcases cE_or (G := G) (NM := NM) j with z | rfl | ⟨s, hs, rfl | rfl | rfl⟩
    · rw [z] at he; cases he
    · rw [cE_6] at he
      cases he
      exact ⟨6, 9, f6, _, by rw [qc 6 (UC_n (by omega) (by omega)) (by omega) (by omega)]; exact t6, rfl, fun i hi => (g6 i hi).trans (congrArg some (nu i (by omega) 0 ok0).symm)⟩
    · rw [cE_1 hs] at he
      cases he
      obtain ⟨-, ⟨f, k1, d1⟩, -⟩ := shB s hs
      exact ⟨3, 12, f, _, by rw [nu s hs 1 (Or.inl (by omega))]; exact k1, rfl, fun i hi => (d1 i hi).trans (congrArg some (by rw [Nat.add_assoc]; exact (nu s hs (10 + i) (okS hi)).symm))⟩
    · rw [cE_2 hs] at he
      cases he
      obtain ⟨-, -, ⟨f, k1, d1⟩, -⟩ := shB s hs
      exact ⟨4, 16, f, _, by rw [nu s hs 2 (Or.inl (by omega))]; exact k1, rfl, fun i hi => (d1 i hi).trans (congrArg some (by rw [Nat.add_assoc]; exact (nu s hs (30 + i) (okP hi)).symm))⟩
    · rw [cE_3 hs] at he
      cases he
      obtain ⟨-, -, -, ⟨f, k1, d1⟩, -⟩ := shB s hs
      exact ⟨5, 8, f, _, by rw [nu s hs 3 (Or.inl (by omega))]; exact k1, rfl, fun i hi => (d1 i hi).trans (congrArg some (by rw [Nat.add_assoc]; exact (nu s hs (50 + i) (okO hi)).symm))⟩
  have h0 : ∀ p : Nat, ∃ x : Option va_E, (∀ j, j < 3000 → p = NM j → cE G NM j ≠ none → x = cE G NM j) ∧ ((∀ j, j < 3000 → p = NM j → cE G NM j = none) → x = h p) := by
    intro p
    by_cases c : ∃ j, j < 3000 ∧ p = NM j ∧ cE G NM j ≠ none
    · obtain ⟨j, hj, e, ne⟩ := c
      exact ⟨cE G NM j, fun j' hj' e' _ => by rw [inj j j' hj hj' (e.symm.trans e')], fun k => absurd (k j hj e) ne⟩
    · exact ⟨h p, fun j hj e ne => absurd ⟨j, hj, e, ne⟩ c, fun _ => rfl⟩
  obtain ⟨h', hh⟩ := Classical.axiomOfChoice h0
  have hE : ∀ j, j < 3000 → ∀ e, cE G NM j = some e → h' (NM j) = some e := fun j hj e he => by rw [(hh (NM j)).1 j hj rfl (by rw [he]; simp), he]
  have hN : ∀ j, j < 3000 → cE G NM j = none → h' (NM j) = h (NM j) := fun j hj e => (hh (NM j)).2 (fun j' hj' e' => by rw [← inj j j' hj hj' e']; exact e)
  refine ⟨h', fun H R x e hx => ?_, ?_⟩
  · by_cases c : ∃ j, j < 3000 ∧ x = NM j ∧ cE G NM j ≠ none
    · obtain ⟨j, hj, rfl, ne⟩ := c
      cases he : cE G NM j with
      | none => exact absurd he ne
      | some y =>
        rw [hE j hj y he] at hx
        cases hx
        obtain ⟨t, n, f, g, k1, rfl, k3⟩ := hC j hj _ he
        exact (R.ref k1 k3) (NM j) _ hset_s
    · exact R x e (by rw [← hx]; exact ((hh x).2 (fun j hj e => Classical.byContradiction fun z => c ⟨j, hj, e, z⟩)).symm)
  have Aq : ∀ i, Ad (Gn G NM) i = NM i := Gn_ad
  have qa : ∀ i, 1 ≤ i → i < 15 → Ad (Gn G NM) i = u i := fun i h1 h2 => (Aq i).trans (qc i (UC_n h1 (by omega)) (by omega) (by omega))
  have ga : ∀ i, 1 ≤ i → i < 15 → i ≠ 6 → ∀ y, h (u i) = some y → h' (Ad (Gn G NM) i) = some y := fun i h1 h2 h6 y e => by
    rw [Aq, hN i (by omega) (cE_n h6 (Or.inl (by omega))), qc i (UC_n h1 (by omega)) (by omega) (by omega)]; exact e
  obtain ⟨r0, r1, r2, r3, r4, r7, r8, r11⟩ := newRow_cl (fun _ => 0)
  have q1000 : Ad (Gn G NM) 1000 = u 1000 := (Aq 1000).trans (nu 9 (by omega) 0 ok0)
  have q1100 : Ad (Gn G NM) 1100 = u 1100 := (Aq 1100).trans (nu 10 (by omega) 0 ok0)
  have shW : ∀ s, s < 11 → ShW (Gn G NM) h' (100 * (s + 1)) (clN (fun _ => 0)) 0 0 0 := by
    intro s hs
    obtain ⟨c0, -, -, -, c4, c5, c6, c7⟩ := shB s hs
    have g : ∀ x, okI x → x ≠ 1 → x ≠ 2 → x ≠ 3 → ∀ y, h (u (100 * (s + 1) + x)) = some y → h' (Ad (Gn G NM) (100 * (s + 1) + x)) = some y := fun x hx n1 n2 n3 y hy => by
      have := hx.lt
      rw [Aq, hN _ (by omega) (cE_n (by omega) (Or.inr (by omega))), nu s hs x hx]; exact hy
    have b1 : ∀ x, okI x → Ad (Gn G NM) (100 * (s + 1) + x) = u (100 * (s + 1) + x) := fun x hx => (Aq _).trans (nu s hs x hx)
    refine ⟨?_, ?_, ?_, ?_, ⟨_, g 4 (Or.inl (by omega)) (by omega) (by omega) (by omega) _ c4⟩, r2, r3, r4, by omega, by omega, by omega, fun i hi => absurd hi (Nat.not_lt_zero i), fun i hi => absurd hi (Nat.not_lt_zero i), fun i hi => absurd hi (Nat.not_lt_zero i), fun i hi => ?_, fun i hi => ?_, fun i hi => ?_⟩
    · refine (g 0 ok0 (by omega) (by omega) (by omega) _ c0).trans ?_
      unfold eShop
      rw [b1 1 (Or.inl (by omega)), b1 2 (Or.inl (by omega)), b1 3 (Or.inl (by omega)), b1 4 (Or.inl (by omega)), r0, r1, r2, r3, r4, r7, r8, r11]
      rfl
    · rw [Aq, hE _ (by omega) _ (cE_1 hs), show (fun i => some (Ad (Gn G NM) (100 * (s + 1) + 10 + i))) = fun i => some (NM (100 * (s + 1) + 10 + i)) from funext fun i => by rw [Aq]]
      rfl
    · rw [Aq, hE _ (by omega) _ (cE_2 hs), show (fun i => some (Ad (Gn G NM) (100 * (s + 1) + 30 + i))) = fun i => some (NM (100 * (s + 1) + 30 + i)) from funext fun i => by rw [Aq]]
      rfl
    · rw [Aq, hE _ (by omega) _ (cE_3 hs), show (fun i => some (Ad (Gn G NM) (100 * (s + 1) + 50 + i))) = fun i => some (NM (100 * (s + 1) + 50 + i)) from funext fun i => by rw [Aq]]
      rfl
    · exact ⟨0, 0, 0, 0, by rw [Nat.add_assoc]; exact g (10 + i) (okS hi) (by omega) (by omega) (by omega) _ (c5 i hi)⟩
    · exact ⟨0, 0, 0, 0, 0, 0, 0, -4, by rw [Nat.add_assoc]; exact g (30 + i) (okP hi) (by omega) (by omega) (by omega) _ (c6 i hi)⟩
    · exact ⟨0, 0, 0, -4, 0, by rw [Nat.add_assoc]; exact g (50 + i) (okO hi) (by omega) (by omega) (by omega) _ (c7 i hi)⟩
  have e1 : h' (Ad (Gn G NM) 0) = some (eSt (Gn G NM) 0 (-4)) := by
    unfold eSt
    rw [Aq 0, hN 0 (by omega) (cE_n (by omega) (Or.inl (by omega))), q0, s0, qa 1 (by omega) (by omega), q1000, qa 2 (by omega) (by omega), q1100, qa 5 (by omega) (by omega), qa 7 (by omega) (by omega), qa 9 (by omega) (by omega), qa 14 (by omega) (by omega)]
  have e2 : h' (Ad (Gn G NM) 1) = some (.inr (9, [.ref (Ad (Gn G NM) 1000), .ref (Ad (Gn G NM) 2)])) := by
    rw [q1000, qa 2 (by omega) (by omega)]; exact ga 1 (by omega) (by omega) (by omega) _ t1
  have e3 : RsW (Gn G NM) h' 0 (fun _ => 0) (fun _ => 0) := ⟨by rw [qa 3 (by omega) (by omega), qa 4 (by omega) (by omega)]; exact ga 2 (by omega) (by omega) (by omega) _ t2, ga 3 (by omega) (by omega) (by omega) _ t3, ga 4 (by omega) (by omega) (by omega) _ t4⟩
  have e4 : HiW (Gn G NM) h' 0 0 := by
    refine ⟨by rw [qa 6 (by omega) (by omega)]; exact ga 5 (by omega) (by omega) (by omega) _ t5, ?_⟩
    rw [Aq, hE 6 (by omega) _ cE_6, show (fun s => some (Ad (Gn G NM) (100 * (s + 1)))) = fun s => some (NM (100 * (s + 1))) from funext fun i => by rw [Aq]]
    rfl
  have e5 : ChW (Gn G NM) h' 0 (fun _ => 0) := ⟨by rw [qa 8 (by omega) (by omega)]; exact ga 7 (by omega) (by omega) (by omega) _ t7, ga 8 (by omega) (by omega) (by omega) _ t8⟩
  exact ⟨0, -4, 0, 0, 0, _, _, e1, e2, shW 9 (by omega), e3, e4, by omega, by omega, fun i hi => ⟨_, 0, 0, 0, shW i (by omega)⟩, 0, _, e5⟩
end REL0
